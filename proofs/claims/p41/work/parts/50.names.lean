section AMNAMES
def xR_0 : String := "ExpressHouse"
def xF_0 : u_T := fun k => match k with
  | 0 => ("ExpressHouse", "tape", "[B", true)
  | 1 => ("ExpressHouse", "taped", "I", false)
  | 2 => ("ExpressHouse", "tokens", "LExpressHouse$Tokens;", true)
  | 3 => ("ExpressHouse", "people", "LExpressHouse$Population;", true)
  | 4 => ("ExpressHouse", "expressions", "LExpressHouse$Expressions;", true)
  | 5 => ("ExpressHouse", "schemas", "LExpressHouse$SchemaReader;", true)
  | 6 => ("ExpressHouse", "machine", "LExpressHouse$Machine;", true)
  | 7 => ("ExpressHouse", "referee", "LExpressHouse$Judge;", true)
  | 8 => ("ExpressHouse", "source", "LExpressHouse$FileReader;", true)
  | 9 => ("ExpressHouse", "output", "LExpressHouse$FileWriter;", true)
  | 10 => ("ExpressHouse", "hand", "LExpressHouse$Value;", false)
  | 11 => ("ExpressHouse", "slots", "[LExpressHouse$Value;", true)
  | 12 => ("ExpressHouse", "rows", "[LExpressHouse$Value;", true)
  | 13 => ("ExpressHouse", "latestFault", "I", false)
  | _ => ("ExpressHouse", "itemError", "I", false)
def xt_0 : Nat → FieldType := fun k => match k with
  | 0 => .array (.byte)
  | 1 => .int
  | 2 => .object "ExpressHouse$Tokens"
  | 3 => .object "ExpressHouse$Population"
  | 4 => .object "ExpressHouse$Expressions"
  | 5 => .object "ExpressHouse$SchemaReader"
  | 6 => .object "ExpressHouse$Machine"
  | 7 => .object "ExpressHouse$Judge"
  | 8 => .object "ExpressHouse$FileReader"
  | 9 => .object "ExpressHouse$FileWriter"
  | 10 => .object "ExpressHouse$Value"
  | 11 => .array (.object "ExpressHouse$Value")
  | 12 => .array (.object "ExpressHouse$Value")
  | 13 => .int
  | _ => .int
def xR_1 : String := "ExpressHouse$Tokens"
def xF_1 : u_T := fun k => match k with
  | 0 => ("ExpressHouse$Tokens", "words", "[J", true)
  | 1 => ("ExpressHouse$Tokens", "kinds", "[I", true)
  | 2 => ("ExpressHouse$Tokens", "places", "[I", true)
  | 3 => ("ExpressHouse$Tokens", "values", "[J", true)
  | 4 => ("ExpressHouse$Tokens", "total", "I", false)
  | 5 => ("ExpressHouse$Tokens", "at", "I", false)
  | 6 => ("ExpressHouse$Tokens", "current", "I", false)
  | 7 => ("ExpressHouse$Tokens", "place", "I", false)
  | 8 => ("ExpressHouse$Tokens", "value", "J", false)
  | 9 => ("ExpressHouse$Tokens", "fault", "I", false)
  | 10 => ("ExpressHouse$Tokens", "faultPlace", "I", false)
  | 11 => ("ExpressHouse$Tokens", "softFault", "I", false)
  | 12 => ("ExpressHouse$Tokens", "softPlace", "I", false)
  | 13 => ("ExpressHouse$Tokens", "nodes", "I", false)
  | _ => ("ExpressHouse$Tokens", "openings", "I", false)
def xt_1 : Nat → FieldType := fun k => match k with
  | 0 => .array (.long)
  | 1 => .array (.int)
  | 2 => .array (.int)
  | 3 => .array (.long)
  | 4 => .int
  | 5 => .int
  | 6 => .int
  | 7 => .int
  | 8 => .long
  | 9 => .int
  | 10 => .int
  | 11 => .int
  | 12 => .int
  | 13 => .int
  | _ => .int
def xR_2 : String := "ExpressHouse$Population"
def xF_2 : u_T := fun k => match k with
  | 0 => ("ExpressHouse$Population", "schema", "LExpressHouse$Schema;", false)
  | 1 => ("ExpressHouse$Population", "nothing", "LExpressHouse$Value;", true)
  | 2 => ("ExpressHouse$Population", "made", "I", false)
  | 3 => ("ExpressHouse$Population", "combinations", "[I", true)
  | 4 => ("ExpressHouse$Population", "held", "[LExpressHouse$Value;", true)
  | 5 => ("ExpressHouse$Population", "saved", "Z", false)
  | 6 => ("ExpressHouse$Population", "savedMade", "I", false)
  | 7 => ("ExpressHouse$Population", "savedCombinations", "[I", true)
  | 8 => ("ExpressHouse$Population", "savedHeld", "[LExpressHouse$Value;", true)
  | 9 => ("ExpressHouse$Population", "likenesses", "[I", false)
  | 10 => ("ExpressHouse$Population", "finer", "[I", false)
  | _ => ("ExpressHouse$Population", "stale", "Z", false)
def xt_2 : Nat → FieldType := fun k => match k with
  | 0 => .object "ExpressHouse$Schema"
  | 1 => .object "ExpressHouse$Value"
  | 2 => .int
  | 3 => .array (.int)
  | 4 => .array (.object "ExpressHouse$Value")
  | 5 => .boolean
  | 6 => .int
  | 7 => .array (.int)
  | 8 => .array (.object "ExpressHouse$Value")
  | 9 => .array (.int)
  | 10 => .array (.int)
  | _ => .boolean
def xR_3 : String := "ExpressHouse$Schema"
def xF_3 : u_T := fun k => match k with
  | 0 => ("ExpressHouse$Schema", "builtIn", "[J", true)
  | 1 => ("ExpressHouse$Schema", "names", "[[J", true)
  | 2 => ("ExpressHouse$Schema", "counts", "[I", true)
  | 3 => ("ExpressHouse$Schema", "itemTypes", "[I", true)
  | 4 => ("ExpressHouse$Schema", "types", "[[I", true)
  | 5 => ("ExpressHouse$Schema", "entities", "[[I", true)
  | 6 => ("ExpressHouse$Schema", "uniques", "[J", true)
  | 7 => ("ExpressHouse$Schema", "attributes", "[[I", true)
  | 8 => ("ExpressHouse$Schema", "kinds", "[[I", true)
  | 9 => ("ExpressHouse$Schema", "functions", "[[I", true)
  | 10 => ("ExpressHouse$Schema", "wheres", "[I", true)
  | 11 => ("ExpressHouse$Schema", "whereStarts", "[I", true)
  | 12 => ("ExpressHouse$Schema", "code", "[I", true)
  | 13 => ("ExpressHouse$Schema", "codeEnd", "I", false)
  | 14 => ("ExpressHouse$Schema", "nodes", "I", false)
  | 15 => ("ExpressHouse$Schema", "combinationCounts", "[I", true)
  | 16 => ("ExpressHouse$Schema", "counted", "Z", false)
  | 17 => ("ExpressHouse$Schema", "overNames", "[I", true)
  | _ => ("ExpressHouse$Schema", "overHits", "[Z", true)
def xt_3 : Nat → FieldType := fun k => match k with
  | 0 => .array (.long)
  | 1 => .array (.array (.long))
  | 2 => .array (.int)
  | 3 => .array (.int)
  | 4 => .array (.array (.int))
  | 5 => .array (.array (.int))
  | 6 => .array (.long)
  | 7 => .array (.array (.int))
  | 8 => .array (.array (.int))
  | 9 => .array (.array (.int))
  | 10 => .array (.int)
  | 11 => .array (.int)
  | 12 => .array (.int)
  | 13 => .int
  | 14 => .int
  | 15 => .array (.int)
  | 16 => .boolean
  | 17 => .array (.int)
  | _ => .array (.boolean)
def xR_4 : String := "ExpressHouse$Expressions"
def xF_4 : u_T := fun k => match k with
  | 0 => ("ExpressHouse$Expressions", "tokens", "LExpressHouse$Tokens;", true)
  | 1 => ("ExpressHouse$Expressions", "schema", "LExpressHouse$Schema;", false)
  | 2 => ("ExpressHouse$Expressions", "binding", "Z", false)
  | 3 => ("ExpressHouse$Expressions", "top", "I", false)
  | 4 => ("ExpressHouse$Expressions", "hiding", "[J", true)
  | 5 => ("ExpressHouse$Expressions", "hidingSlots", "[I", true)
  | 6 => ("ExpressHouse$Expressions", "hidings", "I", false)
  | 7 => ("ExpressHouse$Expressions", "locals", "[J", true)
  | 8 => ("ExpressHouse$Expressions", "localCount", "I", false)
  | 9 => ("ExpressHouse$Expressions", "slots", "I", false)
  | 10 => ("ExpressHouse$Expressions", "owner", "I", false)
  | _ => ("ExpressHouse$Expressions", "selfKnown", "Z", false)
def xt_4 : Nat → FieldType := fun k => match k with
  | 0 => .object "ExpressHouse$Tokens"
  | 1 => .object "ExpressHouse$Schema"
  | 2 => .boolean
  | 3 => .int
  | 4 => .array (.long)
  | 5 => .array (.int)
  | 6 => .int
  | 7 => .array (.long)
  | 8 => .int
  | 9 => .int
  | 10 => .int
  | _ => .boolean
def xR_5 : String := "ExpressHouse$SchemaReader"
def xF_5 : u_T := fun k => match k with
  | 0 => ("ExpressHouse$SchemaReader", "tokens", "LExpressHouse$Tokens;", true)
  | 1 => ("ExpressHouse$SchemaReader", "expressions", "LExpressHouse$Expressions;", true)
  | 2 => ("ExpressHouse$SchemaReader", "draft", "LExpressHouse$Schema;", false)
  | 3 => ("ExpressHouse$SchemaReader", "pass", "I", false)
  | 4 => ("ExpressHouse$SchemaReader", "met", "[I", true)
  | 5 => ("ExpressHouse$SchemaReader", "kindsMet", "I", false)
  | 6 => ("ExpressHouse$SchemaReader", "statementsMet", "I", false)
  | 7 => ("ExpressHouse$SchemaReader", "overSeen", "I", false)
  | 8 => ("ExpressHouse$SchemaReader", "loopExit", "I", false)
  | _ => ("ExpressHouse$SchemaReader", "loopNext", "I", false)
def xt_5 : Nat → FieldType := fun k => match k with
  | 0 => .object "ExpressHouse$Tokens"
  | 1 => .object "ExpressHouse$Expressions"
  | 2 => .object "ExpressHouse$Schema"
  | 3 => .int
  | 4 => .array (.int)
  | 5 => .int
  | 6 => .int
  | 7 => .int
  | 8 => .int
  | _ => .int
def xR_6 : String := "ExpressHouse$Machine"
def xF_6 : u_T := fun k => match k with
  | 0 => ("ExpressHouse$Machine", "people", "LExpressHouse$Population;", true)
  | 1 => ("ExpressHouse$Machine", "operators", "LExpressHouse$Operators;", true)
  | 2 => ("ExpressHouse$Machine", "nothing", "LExpressHouse$Value;", true)
  | 3 => ("ExpressHouse$Machine", "stack", "[LExpressHouse$Value;", true)
  | 4 => ("ExpressHouse$Machine", "top", "I", false)
  | 5 => ("ExpressHouse$Machine", "locals", "[LExpressHouse$Value;", true)
  | 6 => ("ExpressHouse$Machine", "subjects", "[LExpressHouse$Value;", true)
  | 7 => ("ExpressHouse$Machine", "positions", "[I", true)
  | 8 => ("ExpressHouse$Machine", "ends", "[I", true)
  | 9 => ("ExpressHouse$Machine", "strides", "[I", true)
  | 10 => ("ExpressHouse$Machine", "frames", "I", false)
  | 11 => ("ExpressHouse$Machine", "returns", "[I", true)
  | 12 => ("ExpressHouse$Machine", "results", "[I", true)
  | 13 => ("ExpressHouse$Machine", "floors", "[I", true)
  | 14 => ("ExpressHouse$Machine", "selves", "[LExpressHouse$Value;", true)
  | 15 => ("ExpressHouse$Machine", "at", "I", false)
  | 16 => ("ExpressHouse$Machine", "spent", "Z", false)
  | 17 => ("ExpressHouse$Machine", "limit", "I", false)
  | 18 => ("ExpressHouse$Machine", "made", "I", false)
  | _ => ("ExpressHouse$Machine", "madeInAll", "I", false)
def xt_6 : Nat → FieldType := fun k => match k with
  | 0 => .object "ExpressHouse$Population"
  | 1 => .object "ExpressHouse$Operators"
  | 2 => .object "ExpressHouse$Value"
  | 3 => .array (.object "ExpressHouse$Value")
  | 4 => .int
  | 5 => .array (.object "ExpressHouse$Value")
  | 6 => .array (.object "ExpressHouse$Value")
  | 7 => .array (.int)
  | 8 => .array (.int)
  | 9 => .array (.int)
  | 10 => .int
  | 11 => .array (.int)
  | 12 => .array (.int)
  | 13 => .array (.int)
  | 14 => .array (.object "ExpressHouse$Value")
  | 15 => .int
  | 16 => .boolean
  | 17 => .int
  | 18 => .int
  | _ => .int
def xR_7 : String := "ExpressHouse$Judge"
def xF_7 : u_T := fun k => match k with
  | 0 => ("ExpressHouse$Judge", "people", "LExpressHouse$Population;", true)
  | 1 => ("ExpressHouse$Judge", "machine", "LExpressHouse$Machine;", true)
  | 2 => ("ExpressHouse$Judge", "instances", "[I", true)
  | 3 => ("ExpressHouse$Judge", "verdicts", "[I", true)
  | 4 => ("ExpressHouse$Judge", "noted", "I", false)
  | _ => ("ExpressHouse$Judge", "verdict", "I", false)
def xt_7 : Nat → FieldType := fun k => match k with
  | 0 => .object "ExpressHouse$Population"
  | 1 => .object "ExpressHouse$Machine"
  | 2 => .array (.int)
  | 3 => .array (.int)
  | 4 => .int
  | _ => .int
def xR_8 : String := "ExpressHouse$FileReader"
def xF_8 : u_T := fun k => match k with
  | 0 => ("ExpressHouse$FileReader", "people", "LExpressHouse$Population;", true)
  | 1 => ("ExpressHouse$FileReader", "tokens", "LExpressHouse$Tokens;", true)
  | 2 => ("ExpressHouse$FileReader", "text", "[B", false)
  | 3 => ("ExpressHouse$FileReader", "length", "I", false)
  | 4 => ("ExpressHouse$FileReader", "at", "I", false)
  | 5 => ("ExpressHouse$FileReader", "sensing", "Z", false)
  | 6 => ("ExpressHouse$FileReader", "fault", "I", false)
  | 7 => ("ExpressHouse$FileReader", "faultPlace", "I", false)
  | 8 => ("ExpressHouse$FileReader", "numbers", "[I", true)
  | 9 => ("ExpressHouse$FileReader", "combinations", "[I", true)
  | 10 => ("ExpressHouse$FileReader", "sound", "[Z", true)
  | 11 => ("ExpressHouse$FileReader", "entries", "I", false)
  | 12 => ("ExpressHouse$FileReader", "entry", "I", false)
  | 13 => ("ExpressHouse$FileReader", "named", "I", false)
  | 14 => ("ExpressHouse$FileReader", "kind", "I", false)
  | 15 => ("ExpressHouse$FileReader", "bits", "J", false)
  | 16 => ("ExpressHouse$FileReader", "cells", "[J", true)
  | 17 => ("ExpressHouse$FileReader", "toldNumbers", "[I", true)
  | 18 => ("ExpressHouse$FileReader", "toldCount", "I", false)
  | _ => ("ExpressHouse$FileReader", "toldFirst", "I", false)
def xt_8 : Nat → FieldType := fun k => match k with
  | 0 => .object "ExpressHouse$Population"
  | 1 => .object "ExpressHouse$Tokens"
  | 2 => .array (.byte)
  | 3 => .int
  | 4 => .int
  | 5 => .boolean
  | 6 => .int
  | 7 => .int
  | 8 => .array (.int)
  | 9 => .array (.int)
  | 10 => .array (.boolean)
  | 11 => .int
  | 12 => .int
  | 13 => .int
  | 14 => .int
  | 15 => .long
  | 16 => .array (.long)
  | 17 => .array (.int)
  | 18 => .int
  | _ => .int
def xR_9 : String := "ExpressHouse$FileWriter"
def xF_9 : u_T := fun k => match k with
  | 0 => ("ExpressHouse$FileWriter", "people", "LExpressHouse$Population;", true)
  | 1 => ("ExpressHouse$FileWriter", "bytes", "[B", false)
  | 2 => ("ExpressHouse$FileWriter", "size", "I", false)
  | 3 => ("ExpressHouse$FileWriter", "draft", "[B", false)
  | _ => ("ExpressHouse$FileWriter", "drafted", "I", false)
def xt_9 : Nat → FieldType := fun k => match k with
  | 0 => .object "ExpressHouse$Population"
  | 1 => .array (.byte)
  | 2 => .int
  | 3 => .array (.byte)
  | _ => .int
def xR_10 : String := "ExpressHouse$Value"
def xF_10 : u_T := fun k => match k with
  | 0 => ("ExpressHouse$Value", "kind", "I", true)
  | 1 => ("ExpressHouse$Value", "bits", "J", true)
  | 2 => ("ExpressHouse$Value", "sort", "I", true)
  | 3 => ("ExpressHouse$Value", "low", "I", true)
  | 4 => ("ExpressHouse$Value", "lane", "I", true)
  | 5 => ("ExpressHouse$Value", "holes", "I", true)
  | _ => ("ExpressHouse$Value", "cells", "[J", true)
def xt_10 : Nat → FieldType := fun k => match k with
  | 0 => .int
  | 1 => .long
  | 2 => .int
  | 3 => .int
  | 4 => .int
  | 5 => .int
  | _ => .array (.long)
def xR_11 : String := "ExpressHouse$Operators"
def xF_11 : u_T := fun k => match k with
  | 0 => ("ExpressHouse$Operators", "people", "LExpressHouse$Population;", true)
  | 1 => ("ExpressHouse$Operators", "nothing", "LExpressHouse$Value;", true)
  | _ => ("ExpressHouse$Operators", "room", "[J", true)
def xt_11 : Nat → FieldType := fun k => match k with
  | 0 => .object "ExpressHouse$Population"
  | 1 => .object "ExpressHouse$Value"
  | _ => .array (.long)
def xcl : List vw_C := [(xR_0, xF_0, 15), (xR_1, xF_1, 15), (xR_2, xF_2, 12), (xR_3, xF_3, 19), (xR_4, xF_4, 12), (xR_5, xF_5, 10), (xR_6, xF_6, 20), (xR_7, xF_7, 6), (xR_8, xF_8, 20), (xR_9, xF_9, 5), (xR_10, xF_10, 7), (xR_11, xF_11, 3)]
def xrn : Nat → FieldType := fun k => match k with
  | 0 => .object "ExpressHouse$Value"
  | 1 => .array (.long)
  | 2 => .array (.int)
  | 3 => .object "ExpressHouse"
  | 4 => .object "ExpressHouse$Tokens"
  | 5 => .object "ExpressHouse$Population"
  | 6 => .object "ExpressHouse$Schema"
  | 7 => .object "ExpressHouse$Expressions"
  | 8 => .object "ExpressHouse$SchemaReader"
  | 9 => .object "ExpressHouse$Machine"
  | 10 => .object "ExpressHouse$Judge"
  | 11 => .object "ExpressHouse$FileReader"
  | 12 => .object "ExpressHouse$FileWriter"
  | 13 => .object "ExpressHouse$Operators"
  | _ => .object ""
def xBIG : List Cond := lw_tbl.filter goodWord
theorem xin_0 {w : Cond} (h : w ∈ k2_sels lw_privs) (hg : goodWord w = true) : w ∈ xBIG := List.mem_filter.mpr ⟨List.mem_append_left _ h, hg⟩
theorem xin_1 {w : Cond} (h : w ∈ tables_1_1) (hg : goodWord w = true) : w ∈ xBIG := List.mem_filter.mpr ⟨List.mem_append_right _ (show w ∈ tables_1 from List.mem_append_left _ h), hg⟩
theorem xin_2 {w : Cond} (h : w ∈ tables_1_2) (hg : goodWord w = true) : w ∈ xBIG := List.mem_filter.mpr ⟨List.mem_append_right _ (show w ∈ tables_1 from List.mem_append_right _ (List.mem_append_left _ h)), hg⟩
theorem xin_3 {w : Cond} (h : w ∈ tables_1_3) (hg : goodWord w = true) : w ∈ xBIG := List.mem_filter.mpr ⟨List.mem_append_right _ (show w ∈ tables_1 from List.mem_append_right _ (List.mem_append_right _ (List.mem_append_left _ h))), hg⟩
theorem xin_4 {w : Cond} (h : w ∈ tables_1_4) (hg : goodWord w = true) : w ∈ xBIG := List.mem_filter.mpr ⟨List.mem_append_right _ (show w ∈ tables_1 from List.mem_append_right _ (List.mem_append_right _ (List.mem_append_right _ (List.mem_append_left _ h)))), hg⟩
theorem xin_5 {w : Cond} (h : w ∈ tables_1_5) (hg : goodWord w = true) : w ∈ xBIG := List.mem_filter.mpr ⟨List.mem_append_right _ (show w ∈ tables_1 from List.mem_append_right _ (List.mem_append_right _ (List.mem_append_right _ (List.mem_append_right _ (List.mem_append_left _ h))))), hg⟩
theorem xin_6 {w : Cond} (h : w ∈ tables_1_6) (hg : goodWord w = true) : w ∈ xBIG := List.mem_filter.mpr ⟨List.mem_append_right _ (show w ∈ tables_1 from List.mem_append_right _ (List.mem_append_right _ (List.mem_append_right _ (List.mem_append_right _ (List.mem_append_right _ (List.mem_append_left _ h)))))), hg⟩
theorem xin_7 {w : Cond} (h : w ∈ tables_1_7) (hg : goodWord w = true) : w ∈ xBIG := List.mem_filter.mpr ⟨List.mem_append_right _ (show w ∈ tables_1 from List.mem_append_right _ (List.mem_append_right _ (List.mem_append_right _ (List.mem_append_right _ (List.mem_append_right _ (List.mem_append_right _ (List.mem_append_left _ h))))))), hg⟩
theorem xin_8 {w : Cond} (h : w ∈ tables_1_8) (hg : goodWord w = true) : w ∈ xBIG := List.mem_filter.mpr ⟨List.mem_append_right _ (show w ∈ tables_1 from List.mem_append_right _ (List.mem_append_right _ (List.mem_append_right _ (List.mem_append_right _ (List.mem_append_right _ (List.mem_append_right _ (List.mem_append_right _ (List.mem_append_left _ h)))))))), hg⟩
theorem xin_9 {w : Cond} (h : w ∈ tables_1_9) (hg : goodWord w = true) : w ∈ xBIG := List.mem_filter.mpr ⟨List.mem_append_right _ (show w ∈ tables_1 from List.mem_append_right _ (List.mem_append_right _ (List.mem_append_right _ (List.mem_append_right _ (List.mem_append_right _ (List.mem_append_right _ (List.mem_append_right _ (List.mem_append_right _ (List.mem_append_left _ h))))))))), hg⟩
theorem xin_10 {w : Cond} (h : w ∈ tables_1_10) (hg : goodWord w = true) : w ∈ xBIG := List.mem_filter.mpr ⟨List.mem_append_right _ (show w ∈ tables_1 from List.mem_append_right _ (List.mem_append_right _ (List.mem_append_right _ (List.mem_append_right _ (List.mem_append_right _ (List.mem_append_right _ (List.mem_append_right _ (List.mem_append_right _ (List.mem_append_right _ (h)))))))))), hg⟩
theorem xw_0 : Cond.methodLink "ExpressHouse" 1 ⟨"java/lang/Object", "<init>", "()V"⟩ ∈ xBIG := xin_1 (List.mem_of_getElem? (i := 28) rfl) rfl
theorem xw_1 : Cond.instanceMethod ⟨"java/lang/Object", "<init>", "()V"⟩ ∈ xBIG := xin_1 (List.mem_of_getElem? (i := 29) rfl) rfl
theorem xw_2 : Cond.code ⟨"java/lang/Object", "<init>", "()V"⟩ ⟨#[0xb1]⟩ 1 none ∈ xBIG := xin_1 (List.mem_of_getElem? (i := 30) rfl) rfl
theorem xw_3 : Cond.arrayClass .byte ∈ xBIG := xin_1 (List.mem_of_getElem? (i := 147) rfl) rfl
theorem xw_4 : Cond.fieldLink "ExpressHouse" 9 "ExpressHouse" "tape" "[B" ∈ xBIG := xin_3 (List.mem_of_getElem? (i := 198) rfl) rfl
theorem xw_5 : Cond.classLink "ExpressHouse" 13 "ExpressHouse$Tokens" ∈ xBIG := xin_1 (List.mem_of_getElem? (i := 31) rfl) rfl
theorem xw_6 : Cond.instantiable "ExpressHouse$Tokens" 15 ∈ xBIG := xin_1 (List.mem_of_getElem? (i := 32) rfl) rfl
theorem xw_7 : Cond.initialized "ExpressHouse$Tokens" ∈ xBIG := xin_1 (List.mem_of_getElem? (i := 2) rfl) rfl
theorem xw_8 : Cond.instanceMethod ⟨"ExpressHouse$Tokens", "<init>", "()V"⟩ ∈ xBIG := xin_1 (List.mem_of_getElem? (i := 34) rfl) rfl
theorem xw_9 : Cond.fieldLink "ExpressHouse" 16 "ExpressHouse" "tokens" "LExpressHouse$Tokens;" ∈ xBIG := xin_3 (List.mem_of_getElem? (i := 200) rfl) rfl
theorem xw_10 : Cond.classLink "ExpressHouse" 20 "ExpressHouse$Population" ∈ xBIG := xin_1 (List.mem_of_getElem? (i := 150) rfl) rfl
theorem xw_11 : Cond.instantiable "ExpressHouse$Population" 12 ∈ xBIG := xin_1 (List.mem_of_getElem? (i := 151) rfl) rfl
theorem xw_12 : Cond.initialized "ExpressHouse$Population" ∈ xBIG := xin_1 (List.mem_of_getElem? (i := 7) rfl) rfl
theorem xw_13 : Cond.classLink "ExpressHouse" 22 "ExpressHouse$Schema" ∈ xBIG := xin_1 (List.mem_of_getElem? (i := 152) rfl) rfl
theorem xw_14 : Cond.instantiable "ExpressHouse$Schema" 19 ∈ xBIG := xin_1 (List.mem_of_getElem? (i := 153) rfl) rfl
theorem xw_15 : Cond.initialized "ExpressHouse$Schema" ∈ xBIG := xin_1 (List.mem_of_getElem? (i := 8) rfl) rfl
theorem xw_16 : Cond.instanceMethod ⟨"ExpressHouse$Schema", "<init>", "()V"⟩ ∈ xBIG := xin_1 (List.mem_of_getElem? (i := 155) rfl) rfl
theorem xw_17 : Cond.instanceMethod ⟨"ExpressHouse$Population", "<init>", "(LExpressHouse$Schema;)V"⟩ ∈ xBIG := xin_2 (List.mem_of_getElem? (i := 21) rfl) rfl
theorem xw_18 : Cond.methodLink "ExpressHouse" 25 ⟨"ExpressHouse$Population", "<init>", "(LExpressHouse$Schema;)V"⟩ ∈ xBIG := xin_2 (List.mem_of_getElem? (i := 20) rfl) rfl
theorem xw_19 : Cond.fieldLink "ExpressHouse" 28 "ExpressHouse" "people" "LExpressHouse$Population;" ∈ xBIG := xin_3 (List.mem_of_getElem? (i := 201) rfl) rfl
theorem xw_20 : Cond.classLink "ExpressHouse" 32 "ExpressHouse$Expressions" ∈ xBIG := xin_2 (List.mem_of_getElem? (i := 140) rfl) rfl
theorem xw_21 : Cond.instantiable "ExpressHouse$Expressions" 12 ∈ xBIG := xin_2 (List.mem_of_getElem? (i := 141) rfl) rfl
theorem xw_22 : Cond.initialized "ExpressHouse$Expressions" ∈ xBIG := xin_1 (List.mem_of_getElem? (i := 10) rfl) rfl
theorem xw_23 : Cond.fieldLink "ExpressHouse" 34 "ExpressHouse$Population" "schema" "LExpressHouse$Schema;" ∈ xBIG := xin_2 (List.mem_of_getElem? (i := 90) rfl) rfl
theorem xw_24 : Cond.instanceMethod ⟨"ExpressHouse$Expressions", "<init>", "(LExpressHouse$Tokens;LExpressHouse$Schema;)V"⟩ ∈ xBIG := xin_2 (List.mem_of_getElem? (i := 143) rfl) rfl
theorem xw_25 : Cond.methodLink "ExpressHouse" 38 ⟨"ExpressHouse$Expressions", "<init>", "(LExpressHouse$Tokens;LExpressHouse$Schema;)V"⟩ ∈ xBIG := xin_2 (List.mem_of_getElem? (i := 142) rfl) rfl
theorem xw_26 : Cond.fieldLink "ExpressHouse" 41 "ExpressHouse" "expressions" "LExpressHouse$Expressions;" ∈ xBIG := xin_3 (List.mem_of_getElem? (i := 202) rfl) rfl
theorem xw_27 : Cond.classLink "ExpressHouse" 45 "ExpressHouse$SchemaReader" ∈ xBIG := xin_2 (List.mem_of_getElem? (i := 185) rfl) rfl
theorem xw_28 : Cond.instantiable "ExpressHouse$SchemaReader" 10 ∈ xBIG := xin_2 (List.mem_of_getElem? (i := 186) rfl) rfl
theorem xw_29 : Cond.initialized "ExpressHouse$SchemaReader" ∈ xBIG := xin_1 (List.mem_of_getElem? (i := 11) rfl) rfl
theorem xw_30 : Cond.instanceMethod ⟨"ExpressHouse$SchemaReader", "<init>", "(LExpressHouse$Tokens;LExpressHouse$Expressions;)V"⟩ ∈ xBIG := xin_2 (List.mem_of_getElem? (i := 188) rfl) rfl
theorem xw_31 : Cond.methodLink "ExpressHouse" 47 ⟨"ExpressHouse$SchemaReader", "<init>", "(LExpressHouse$Tokens;LExpressHouse$Expressions;)V"⟩ ∈ xBIG := xin_2 (List.mem_of_getElem? (i := 187) rfl) rfl
theorem xw_32 : Cond.fieldLink "ExpressHouse" 50 "ExpressHouse" "schemas" "LExpressHouse$SchemaReader;" ∈ xBIG := xin_3 (List.mem_of_getElem? (i := 203) rfl) rfl
theorem xw_33 : Cond.classLink "ExpressHouse" 54 "ExpressHouse$Machine" ∈ xBIG := xin_2 (List.mem_of_getElem? (i := 224) rfl) rfl
theorem xw_34 : Cond.instantiable "ExpressHouse$Machine" 20 ∈ xBIG := xin_2 (List.mem_of_getElem? (i := 225) rfl) rfl
theorem xw_35 : Cond.initialized "ExpressHouse$Machine" ∈ xBIG := xin_1 (List.mem_of_getElem? (i := 12) rfl) rfl
theorem xw_36 : Cond.instanceMethod ⟨"ExpressHouse$Machine", "<init>", "(LExpressHouse$Population;)V"⟩ ∈ xBIG := xin_2 (List.mem_of_getElem? (i := 227) rfl) rfl
theorem xw_37 : Cond.methodLink "ExpressHouse" 56 ⟨"ExpressHouse$Machine", "<init>", "(LExpressHouse$Population;)V"⟩ ∈ xBIG := xin_2 (List.mem_of_getElem? (i := 226) rfl) rfl
theorem xw_38 : Cond.fieldLink "ExpressHouse" 59 "ExpressHouse" "machine" "LExpressHouse$Machine;" ∈ xBIG := xin_3 (List.mem_of_getElem? (i := 204) rfl) rfl
theorem xw_39 : Cond.classLink "ExpressHouse" 63 "ExpressHouse$Judge" ∈ xBIG := xin_3 (List.mem_of_getElem? (i := 72) rfl) rfl
theorem xw_40 : Cond.instantiable "ExpressHouse$Judge" 6 ∈ xBIG := xin_3 (List.mem_of_getElem? (i := 73) rfl) rfl
theorem xw_41 : Cond.initialized "ExpressHouse$Judge" ∈ xBIG := xin_1 (List.mem_of_getElem? (i := 14) rfl) rfl
theorem xw_42 : Cond.instanceMethod ⟨"ExpressHouse$Judge", "<init>", "(LExpressHouse$Population;LExpressHouse$Machine;)V"⟩ ∈ xBIG := xin_3 (List.mem_of_getElem? (i := 75) rfl) rfl
theorem xw_43 : Cond.methodLink "ExpressHouse" 65 ⟨"ExpressHouse$Judge", "<init>", "(LExpressHouse$Population;LExpressHouse$Machine;)V"⟩ ∈ xBIG := xin_3 (List.mem_of_getElem? (i := 74) rfl) rfl
theorem xw_44 : Cond.fieldLink "ExpressHouse" 68 "ExpressHouse" "referee" "LExpressHouse$Judge;" ∈ xBIG := xin_3 (List.mem_of_getElem? (i := 205) rfl) rfl
theorem xw_45 : Cond.classLink "ExpressHouse" 72 "ExpressHouse$FileReader" ∈ xBIG := xin_3 (List.mem_of_getElem? (i := 100) rfl) rfl
theorem xw_46 : Cond.instantiable "ExpressHouse$FileReader" 20 ∈ xBIG := xin_3 (List.mem_of_getElem? (i := 101) rfl) rfl
theorem xw_47 : Cond.initialized "ExpressHouse$FileReader" ∈ xBIG := xin_1 (List.mem_of_getElem? (i := 15) rfl) rfl
theorem xw_48 : Cond.instanceMethod ⟨"ExpressHouse$FileReader", "<init>", "(LExpressHouse$Population;LExpressHouse$Tokens;)V"⟩ ∈ xBIG := xin_3 (List.mem_of_getElem? (i := 103) rfl) rfl
theorem xw_49 : Cond.methodLink "ExpressHouse" 74 ⟨"ExpressHouse$FileReader", "<init>", "(LExpressHouse$Population;LExpressHouse$Tokens;)V"⟩ ∈ xBIG := xin_3 (List.mem_of_getElem? (i := 102) rfl) rfl
theorem xw_50 : Cond.fieldLink "ExpressHouse" 77 "ExpressHouse" "source" "LExpressHouse$FileReader;" ∈ xBIG := xin_3 (List.mem_of_getElem? (i := 206) rfl) rfl
theorem xw_51 : Cond.classLink "ExpressHouse" 81 "ExpressHouse$FileWriter" ∈ xBIG := xin_3 (List.mem_of_getElem? (i := 168) rfl) rfl
theorem xw_52 : Cond.instantiable "ExpressHouse$FileWriter" 5 ∈ xBIG := xin_3 (List.mem_of_getElem? (i := 169) rfl) rfl
theorem xw_53 : Cond.initialized "ExpressHouse$FileWriter" ∈ xBIG := xin_1 (List.mem_of_getElem? (i := 16) rfl) rfl
theorem xw_54 : Cond.instanceMethod ⟨"ExpressHouse$FileWriter", "<init>", "(LExpressHouse$Population;)V"⟩ ∈ xBIG := xin_3 (List.mem_of_getElem? (i := 171) rfl) rfl
theorem xw_55 : Cond.methodLink "ExpressHouse" 83 ⟨"ExpressHouse$FileWriter", "<init>", "(LExpressHouse$Population;)V"⟩ ∈ xBIG := xin_3 (List.mem_of_getElem? (i := 170) rfl) rfl
theorem xw_56 : Cond.fieldLink "ExpressHouse" 84 "ExpressHouse" "output" "LExpressHouse$FileWriter;" ∈ xBIG := xin_3 (List.mem_of_getElem? (i := 207) rfl) rfl
theorem xw_57 : Cond.classLink "ExpressHouse" 88 "ExpressHouse$Value" ∈ xBIG := xin_3 (List.mem_of_getElem? (i := 192) rfl) rfl
theorem xw_58 : Cond.instantiable "ExpressHouse$Value" 7 ∈ xBIG := xin_2 (List.mem_of_getElem? (i := 25) rfl) rfl
theorem xw_59 : Cond.initialized "ExpressHouse$Value" ∈ xBIG := xin_1 (List.mem_of_getElem? (i := 9) rfl) rfl
theorem xw_60 : Cond.instanceMethod ⟨"ExpressHouse$Value", "<init>", "(IJ)V"⟩ ∈ xBIG := xin_2 (List.mem_of_getElem? (i := 27) rfl) rfl
theorem xw_61 : Cond.fieldLink "ExpressHouse" 93 "ExpressHouse" "hand" "LExpressHouse$Value;" ∈ xBIG := xin_3 (List.mem_of_getElem? (i := 208) rfl) rfl
theorem xw_62 : Cond.fieldLink "ExpressHouse" 97 "ExpressHouse" "slots" "[LExpressHouse$Value;" ∈ xBIG := xin_3 (List.mem_of_getElem? (i := 209) rfl) rfl
theorem xw_63 : Cond.fieldLink "ExpressHouse" 101 "ExpressHouse" "rows" "[LExpressHouse$Value;" ∈ xBIG := xin_3 (List.mem_of_getElem? (i := 210) rfl) rfl
theorem xw_64 : Cond.initialized "ExpressHouse" ∈ xBIG := xin_1 (List.mem_of_getElem? (i := 1) rfl) rfl
theorem xw_65 : Cond.instanceMethod ⟨"ExpressHouse", "emptyHands", "()V"⟩ ∈ xBIG := xin_3 (List.mem_of_getElem? (i := 196) rfl) rfl
theorem xw_66 : Cond.selects "ExpressHouse" ⟨"ExpressHouse", "emptyHands", "()V"⟩ ⟨"ExpressHouse", "emptyHands", "()V"⟩ ∈ xBIG := xin_0 (List.mem_of_getElem? (i := 0) rfl) rfl
theorem xw_67 : Cond.methodLink "ExpressHouse" 104 ⟨"ExpressHouse", "emptyHands", "()V"⟩ ∈ xBIG := xin_3 (List.mem_of_getElem? (i := 194) rfl) rfl
theorem xw_68 : Cond.constant "ExpressHouseLaw" 7 (Int32.ofNat 625341585) ∈ xBIG := xin_6 (List.mem_of_getElem? (i := 211) rfl) rfl
theorem xw_69 : Cond.constant "ExpressHouseLaw" 8 (Int32.ofNat 2147483647) ∈ xBIG := xin_6 (List.mem_of_getElem? (i := 215) rfl) rfl
theorem xw_70 : Cond.constant "ExpressHouseLaw" 25 (Int32.ofNat 1935894629) ∈ xBIG := xin_6 (List.mem_of_getElem? (i := 219) rfl) rfl
theorem xw_71 : Cond.constant "ExpressHouseLaw" 26 (Int32.ofNat 1835081843) ∈ xBIG := xin_6 (List.mem_of_getElem? (i := 220) rfl) rfl
theorem xw_72 : Cond.constant "ExpressHouseLaw" 27 (Int32.ofNat 996503156) ∈ xBIG := xin_6 (List.mem_of_getElem? (i := 221) rfl) rfl
theorem xw_73 : Cond.constant "ExpressHouseLaw" 28 (Int32.ofNat 1769240864) ∈ xBIG := xin_6 (List.mem_of_getElem? (i := 222) rfl) rfl
theorem xw_74 : Cond.constant "ExpressHouseLaw" 29 (Int32.ofNat 1629512034) ∈ xBIG := xin_6 (List.mem_of_getElem? (i := 223) rfl) rfl
theorem xw_75 : Cond.instanceMethod ⟨"ExpressHouse", "feed", "(IIIII)I"⟩ ∈ xBIG := xin_6 (List.mem_of_getElem? (i := 225) rfl) rfl
theorem xw_76 : Cond.selects "ExpressHouse" ⟨"ExpressHouse", "feed", "(IIIII)I"⟩ ⟨"ExpressHouse", "feed", "(IIIII)I"⟩ ∈ xBIG := xin_6 (List.mem_of_getElem? (i := 226) rfl) rfl
theorem xw_77 : Cond.methodLink "ExpressHouseLaw" 9 ⟨"ExpressHouse", "feed", "(IIIII)I"⟩ ∈ xBIG := xin_6 (List.mem_of_getElem? (i := 224) rfl) rfl
theorem xw_78 : Cond.constant "ExpressHouseLaw" 30 (Int32.ofNat 1937011297) ∈ xBIG := xin_6 (List.mem_of_getElem? (i := 232) rfl) rfl
theorem xw_79 : Cond.constant "ExpressHouseLaw" 31 (Int32.ofNat 1668554863) ∈ xBIG := xin_6 (List.mem_of_getElem? (i := 233) rfl) rfl
theorem xw_80 : Cond.constant "ExpressHouseLaw" 32 (Int32.ofNat 1986359840) ∈ xBIG := xin_6 (List.mem_of_getElem? (i := 234) rfl) rfl
theorem xw_81 : Cond.constant "ExpressHouseLaw" 33 (Int32.ofNat 1869505903) ∈ xBIG := xin_6 (List.mem_of_getElem? (i := 235) rfl) rfl
theorem xw_82 : Cond.constant "ExpressHouseLaw" 34 (Int32.ofNat 1713922604) ∈ xBIG := xin_6 (List.mem_of_getElem? (i := 236) rfl) rfl
theorem xw_83 : Cond.constant "ExpressHouseLaw" 35 (Int32.ofNat 1663646571) ∈ xBIG := xin_6 (List.mem_of_getElem? (i := 237) rfl) rfl
theorem xw_84 : Cond.constant "ExpressHouseLaw" 36 (Int32.ofNat 980381812) ∈ xBIG := xin_6 (List.mem_of_getElem? (i := 238) rfl) rfl
theorem xw_85 : Cond.constant "ExpressHouseLaw" 37 (Int32.ofNat 1768910433) ∈ xBIG := xin_6 (List.mem_of_getElem? (i := 239) rfl) rfl
theorem xw_86 : Cond.constant "ExpressHouseLaw" 38 (Int32.ofNat 1814063470) ∈ xBIG := xin_7 (List.mem_of_getElem? (i := 0) rfl) rfl
theorem xw_87 : Cond.constant "ExpressHouseLaw" 39 (Int32.ofNat 1952802661) ∈ xBIG := xin_7 (List.mem_of_getElem? (i := 1) rfl) rfl
theorem xw_88 : Cond.constant "ExpressHouseLaw" 40 (Int32.ofNat 1916496954) ∈ xBIG := xin_7 (List.mem_of_getElem? (i := 2) rfl) rfl
theorem xw_89 : Cond.constant "ExpressHouseLaw" 41 (Int32.ofNat 1869640809) ∈ xBIG := xin_7 (List.mem_of_getElem? (i := 3) rfl) rfl
theorem xw_90 : Cond.constant "ExpressHouseLaw" 42 (Int32.ofNat 1869504876) ∈ xBIG := xin_7 (List.mem_of_getElem? (i := 4) rfl) rfl
theorem xw_91 : Cond.constant "ExpressHouseLaw" 43 (Int32.ofNat 544433524) ∈ xBIG := xin_7 (List.mem_of_getElem? (i := 5) rfl) rfl
theorem xw_92 : Cond.constant "ExpressHouseLaw" 44 (Int32.ofNat 1529887285) ∈ xBIG := xin_7 (List.mem_of_getElem? (i := 6) rfl) rfl
theorem xw_93 : Cond.constant "ExpressHouseLaw" 45 (Int32.ofNat 1562406758) ∈ xBIG := xin_7 (List.mem_of_getElem? (i := 7) rfl) rfl
theorem xw_94 : Cond.constant "ExpressHouseLaw" 46 (Int32.ofNat 543243108) ∈ xBIG := xin_7 (List.mem_of_getElem? (i := 8) rfl) rfl
theorem xw_95 : Cond.constant "ExpressHouseLaw" 47 (Int32.ofNat 1701996918) ∈ xBIG := xin_7 (List.mem_of_getElem? (i := 9) rfl) rfl
theorem xw_96 : Cond.constant "ExpressHouseLaw" 48 (Int32.ofNat 1696621626) ∈ xBIG := xin_7 (List.mem_of_getElem? (i := 10) rfl) rfl
theorem xw_97 : Cond.constant "ExpressHouseLaw" 49 (Int32.ofNat 1768846437) ∈ xBIG := xin_7 (List.mem_of_getElem? (i := 11) rfl) rfl
theorem xw_98 : Cond.constant "ExpressHouseLaw" 50 (Int32.ofNat 1734701629) ∈ xBIG := xin_7 (List.mem_of_getElem? (i := 12) rfl) rfl
theorem xw_99 : Cond.constant "ExpressHouseLaw" 51 (Int32.ofNat 1797927483) ∈ xBIG := xin_7 (List.mem_of_getElem? (i := 13) rfl) rfl
theorem xw_100 : Cond.constant "ExpressHouseLaw" 52 (Int32.ofNat 1701733435) ∈ xBIG := xin_7 (List.mem_of_getElem? (i := 14) rfl) rfl
theorem xw_101 : Cond.constant "ExpressHouseLaw" 53 (Int32.ofNat 1701737577) ∈ xBIG := xin_7 (List.mem_of_getElem? (i := 15) rfl) rfl
theorem xw_102 : Cond.constant "ExpressHouseLaw" 54 (Int32.ofNat 1954095202) ∈ xBIG := xin_7 (List.mem_of_getElem? (i := 16) rfl) rfl
theorem xw_103 : Cond.constant "ExpressHouseLaw" 55 (Int32.ofNat 544566884) ∈ xBIG := xin_7 (List.mem_of_getElem? (i := 17) rfl) rfl
theorem xw_104 : Cond.constant "ExpressHouseLaw" 56 (Int32.ofNat 1701978209) ∈ xBIG := xin_7 (List.mem_of_getElem? (i := 18) rfl) rfl
theorem xw_105 : Cond.constant "ExpressHouseLaw" 57 (Int32.ofNat 997669487) ∈ xBIG := xin_7 (List.mem_of_getElem? (i := 19) rfl) rfl
theorem xw_106 : Cond.constant "ExpressHouseLaw" 58 (Int32.ofNat 1886677359) ∈ xBIG := xin_7 (List.mem_of_getElem? (i := 20) rfl) rfl
theorem xw_107 : Cond.constant "ExpressHouseLaw" 59 (Int32.ofNat 1851878432) ∈ xBIG := xin_7 (List.mem_of_getElem? (i := 21) rfl) rfl
theorem xw_108 : Cond.constant "ExpressHouseLaw" 60 (Int32.ofNat 1631282542) ∈ xBIG := xin_7 (List.mem_of_getElem? (i := 22) rfl) rfl
theorem xw_109 : Cond.constant "ExpressHouseLaw" 61 (Int32.ofNat 1681614190) ∈ xBIG := xin_7 (List.mem_of_getElem? (i := 23) rfl) rfl
theorem xw_110 : Cond.constant "ExpressHouseLaw" 62 (Int32.ofNat 1953068153) ∈ xBIG := xin_7 (List.mem_of_getElem? (i := 24) rfl) rfl
theorem xw_111 : Cond.constant "ExpressHouseLaw" 63 (Int32.ofNat 543367285) ∈ xBIG := xin_7 (List.mem_of_getElem? (i := 25) rfl) rfl
theorem xw_112 : Cond.constant "ExpressHouseLaw" 64 (Int32.ofNat 1852073330) ∈ xBIG := xin_7 (List.mem_of_getElem? (i := 26) rfl) rfl
theorem xw_113 : Cond.constant "ExpressHouseLaw" 65 (Int32.ofNat 543243113) ∈ xBIG := xin_7 (List.mem_of_getElem? (i := 27) rfl) rfl
theorem xw_114 : Cond.constant "ExpressHouseLaw" 66 (Int32.ofNat 1853252978) ∈ xBIG := xin_7 (List.mem_of_getElem? (i := 28) rfl) rfl
theorem xw_115 : Cond.constant "ExpressHouseLaw" 67 (Int32.ofNat 1936007273) ∈ xBIG := xin_7 (List.mem_of_getElem? (i := 29) rfl) rfl
theorem xw_116 : Cond.constant "ExpressHouseLaw" 68 (Int32.ofNat 979509350) ∈ xBIG := xin_7 (List.mem_of_getElem? (i := 30) rfl) rfl
theorem xw_117 : Cond.constant "ExpressHouseLaw" 69 (Int32.ofNat 1869750391) ∈ xBIG := xin_7 (List.mem_of_getElem? (i := 31) rfl) rfl
theorem xw_118 : Cond.constant "ExpressHouseLaw" 70 (Int32.ofNat 1529887281) ∈ xBIG := xin_7 (List.mem_of_getElem? (i := 32) rfl) rfl
theorem xw_119 : Cond.constant "ExpressHouseLaw" 71 (Int32.ofNat 1564178280) ∈ xBIG := xin_7 (List.mem_of_getElem? (i := 33) rfl) rfl
theorem xw_120 : Cond.constant "ExpressHouseLaw" 72 (Int32.ofNat 1701995808) ∈ xBIG := xin_7 (List.mem_of_getElem? (i := 34) rfl) rfl
theorem xw_121 : Cond.constant "ExpressHouseLaw" 73 (Int32.ofNat 1702390131) ∈ xBIG := xin_7 (List.mem_of_getElem? (i := 35) rfl) rfl
theorem xw_122 : Cond.constant "ExpressHouseLaw" 74 (Int32.ofNat 1953704043) ∈ xBIG := xin_7 (List.mem_of_getElem? (i := 36) rfl) rfl
theorem xw_123 : Cond.constant "ExpressHouseLaw" 75 (Int32.ofNat 691758446) ∈ xBIG := xin_7 (List.mem_of_getElem? (i := 37) rfl) rfl
theorem xw_124 : Cond.constant "ExpressHouseLaw" 76 (Int32.ofNat 1681614453) ∈ xBIG := xin_7 (List.mem_of_getElem? (i := 38) rfl) rfl
theorem xw_125 : Cond.constant "ExpressHouseLaw" 77 (Int32.ofNat 1852011625) ∈ xBIG := xin_7 (List.mem_of_getElem? (i := 39) rfl) rfl
theorem xw_126 : Cond.constant "ExpressHouseLaw" 78 (Int32.ofNat 1869488230) ∈ xBIG := xin_7 (List.mem_of_getElem? (i := 40) rfl) rfl
theorem xw_127 : Cond.constant "ExpressHouseLaw" 79 (Int32.ofNat 678967905) ∈ xBIG := xin_7 (List.mem_of_getElem? (i := 41) rfl) rfl
theorem xw_128 : Cond.constant "ExpressHouseLaw" 80 (Int32.ofNat 691693934) ∈ xBIG := xin_7 (List.mem_of_getElem? (i := 42) rfl) rfl
theorem xw_129 : Cond.constant "ExpressHouseLaw" 81 (Int32.ofNat 1916496230) ∈ xBIG := xin_7 (List.mem_of_getElem? (i := 43) rfl) rfl
theorem xw_130 : Cond.constant "ExpressHouseLaw" 82 (Int32.ofNat 543520873) ∈ xBIG := xin_7 (List.mem_of_getElem? (i := 44) rfl) rfl
theorem xw_131 : Cond.constant "ExpressHouseLaw" 83 (Int32.ofNat 1937011496) ∈ xBIG := xin_7 (List.mem_of_getElem? (i := 45) rfl) rfl
theorem xw_132 : Cond.constant "ExpressHouseLaw" 84 (Int32.ofNat 2016308009) ∈ xBIG := xin_7 (List.mem_of_getElem? (i := 46) rfl) rfl
theorem xw_133 : Cond.constant "ExpressHouseLaw" 85 (Int32.ofNat 1952998766) ∈ xBIG := xin_7 (List.mem_of_getElem? (i := 47) rfl) rfl
theorem xw_134 : Cond.constant "ExpressHouseLaw" 86 (Int32.ofNat 544367988) ∈ xBIG := xin_7 (List.mem_of_getElem? (i := 48) rfl) rfl
theorem xw_135 : Cond.constant "ExpressHouseLaw" 87 (Int32.ofNat 1970433568) ∈ xBIG := xin_7 (List.mem_of_getElem? (i := 49) rfl) rfl
theorem xw_136 : Cond.constant "ExpressHouseLaw" 88 (Int32.ofNat 2016308011) ∈ xBIG := xin_7 (List.mem_of_getElem? (i := 50) rfl) rfl
theorem xw_137 : Cond.constant "ExpressHouseLaw" 89 (Int32.ofNat 825976174) ∈ xBIG := xin_7 (List.mem_of_getElem? (i := 51) rfl) rfl
theorem xw_138 : Cond.constant "ExpressHouseLaw" 90 (Int32.ofNat 1681596448) ∈ xBIG := xin_7 (List.mem_of_getElem? (i := 52) rfl) rfl
theorem xw_139 : Cond.constant "ExpressHouseLaw" 91 (Int32.ofNat 538976288) ∈ xBIG := xin_7 (List.mem_of_getElem? (i := 53) rfl) rfl
theorem xw_140 : Cond.instanceMethod ⟨"ExpressHouse", "cut", "(I)I"⟩ ∈ xBIG := xin_7 (List.mem_of_getElem? (i := 55) rfl) rfl
theorem xw_141 : Cond.selects "ExpressHouse" ⟨"ExpressHouse", "cut", "(I)I"⟩ ⟨"ExpressHouse", "cut", "(I)I"⟩ ∈ xBIG := xin_7 (List.mem_of_getElem? (i := 56) rfl) rfl
theorem xw_142 : Cond.methodLink "ExpressHouseLaw" 15 ⟨"ExpressHouse", "cut", "(I)I"⟩ ∈ xBIG := xin_7 (List.mem_of_getElem? (i := 54) rfl) rfl
theorem xw_143 : Cond.instanceMethod ⟨"ExpressHouse", "schema", "()I"⟩ ∈ xBIG := xin_7 (List.mem_of_getElem? (i := 59) rfl) rfl
theorem xw_144 : Cond.selects "ExpressHouse" ⟨"ExpressHouse", "schema", "()I"⟩ ⟨"ExpressHouse", "schema", "()I"⟩ ∈ xBIG := xin_7 (List.mem_of_getElem? (i := 60) rfl) rfl
theorem xw_145 : Cond.methodLink "ExpressHouseLaw" 92 ⟨"ExpressHouse", "schema", "()I"⟩ ∈ xBIG := xin_7 (List.mem_of_getElem? (i := 58) rfl) rfl
theorem xw_146 : Cond.instanceMethod ⟨"ExpressHouse", "make", "(I)I"⟩ ∈ xBIG := xin_9 (List.mem_of_getElem? (i := 87) rfl) rfl
theorem xw_147 : Cond.selects "ExpressHouse" ⟨"ExpressHouse", "make", "(I)I"⟩ ⟨"ExpressHouse", "make", "(I)I"⟩ ∈ xBIG := xin_9 (List.mem_of_getElem? (i := 88) rfl) rfl
theorem xw_148 : Cond.methodLink "ExpressHouseLaw" 99 ⟨"ExpressHouse", "make", "(I)I"⟩ ∈ xBIG := xin_9 (List.mem_of_getElem? (i := 86) rfl) rfl
theorem xw_149 : Cond.initialized "ExpressHouseLaw" ∈ xBIG := xin_1 (List.mem_of_getElem? (i := 0) rfl) rfl
theorem xw_150 : Cond.methodLink "ExpressHouseLaw" 102 ⟨"ExpressHouseLaw", "putNumber", "(LExpressHouse;I)Z"⟩ ∈ xBIG := xin_9 (List.mem_of_getElem? (i := 102) rfl) rfl
theorem xw_151 : Cond.static ⟨"ExpressHouseLaw", "putNumber", "(LExpressHouse;I)Z"⟩ ∈ xBIG := xin_9 (List.mem_of_getElem? (i := 103) rfl) rfl
theorem xw_152 : Cond.instanceMethod ⟨"ExpressHouse", "set", "(II)I"⟩ ∈ xBIG := xin_9 (List.mem_of_getElem? (i := 109) rfl) rfl
theorem xw_153 : Cond.selects "ExpressHouse" ⟨"ExpressHouse", "set", "(II)I"⟩ ⟨"ExpressHouse", "set", "(II)I"⟩ ∈ xBIG := xin_9 (List.mem_of_getElem? (i := 110) rfl) rfl
theorem xw_154 : Cond.methodLink "ExpressHouseLaw" 105 ⟨"ExpressHouse", "set", "(II)I"⟩ ∈ xBIG := xin_9 (List.mem_of_getElem? (i := 108) rfl) rfl
theorem xw_155 : Cond.methodLink "ExpressHouseLaw" 109 ⟨"ExpressHouseLaw", "done", "(LExpressHouse;I)I"⟩ ∈ xBIG := xin_9 (List.mem_of_getElem? (i := 123) rfl) rfl
theorem xw_156 : Cond.static ⟨"ExpressHouseLaw", "done", "(LExpressHouse;I)I"⟩ ∈ xBIG := xin_9 (List.mem_of_getElem? (i := 124) rfl) rfl
theorem xw_157 : Cond.methodLink "ExpressHouseLaw" 19 ⟨"ExpressHouseLaw", "put", "(LExpressHouse;I)Z"⟩ ∈ xBIG := xin_9 (List.mem_of_getElem? (i := 105) rfl) rfl
theorem xw_158 : Cond.static ⟨"ExpressHouseLaw", "put", "(LExpressHouse;I)Z"⟩ ∈ xBIG := xin_9 (List.mem_of_getElem? (i := 106) rfl) rfl
theorem xw_159 : Cond.instanceMethod ⟨"ExpressHouse", "drop", "(I)I"⟩ ∈ xBIG := xin_9 (List.mem_of_getElem? (i := 127) rfl) rfl
theorem xw_160 : Cond.selects "ExpressHouse" ⟨"ExpressHouse", "drop", "(I)I"⟩ ⟨"ExpressHouse", "drop", "(I)I"⟩ ∈ xBIG := xin_9 (List.mem_of_getElem? (i := 128) rfl) rfl
theorem xw_161 : Cond.methodLink "ExpressHouseLaw" 113 ⟨"ExpressHouse", "drop", "(I)I"⟩ ∈ xBIG := xin_9 (List.mem_of_getElem? (i := 126) rfl) rfl
theorem xw_162 : Cond.instanceMethod ⟨"ExpressHouse", "get", "(II)I"⟩ ∈ xBIG := xin_4 (List.mem_of_getElem? (i := 76) rfl) rfl
theorem xw_163 : Cond.selects "ExpressHouse" ⟨"ExpressHouse", "get", "(II)I"⟩ ⟨"ExpressHouse", "get", "(II)I"⟩ ∈ xBIG := xin_4 (List.mem_of_getElem? (i := 77) rfl) rfl
theorem xw_164 : Cond.methodLink "ExpressHouseLaw" 116 ⟨"ExpressHouse", "get", "(II)I"⟩ ∈ xBIG := xin_4 (List.mem_of_getElem? (i := 75) rfl) rfl
theorem xw_165 : Cond.instanceMethod ⟨"ExpressHouse", "judge", "(I)I"⟩ ∈ xBIG := xin_6 (List.mem_of_getElem? (i := 22) rfl) rfl
theorem xw_166 : Cond.selects "ExpressHouse" ⟨"ExpressHouse", "judge", "(I)I"⟩ ⟨"ExpressHouse", "judge", "(I)I"⟩ ∈ xBIG := xin_6 (List.mem_of_getElem? (i := 23) rfl) rfl
theorem xw_167 : Cond.methodLink "ExpressHouseLaw" 119 ⟨"ExpressHouse", "judge", "(I)I"⟩ ∈ xBIG := xin_6 (List.mem_of_getElem? (i := 21) rfl) rfl
theorem xw_168 : Cond.constant "ExpressHouseLaw" 122 (Int32.ofNat 1713906464) ∈ xBIG := xin_9 (List.mem_of_getElem? (i := 138) rfl) rfl
theorem xw_169 : Cond.instanceMethod ⟨"ExpressHouse", "work", "()I"⟩ ∈ xBIG := xin_9 (List.mem_of_getElem? (i := 140) rfl) rfl
theorem xw_170 : Cond.selects "ExpressHouse" ⟨"ExpressHouse", "work", "()I"⟩ ⟨"ExpressHouse", "work", "()I"⟩ ∈ xBIG := xin_9 (List.mem_of_getElem? (i := 141) rfl) rfl
theorem xw_171 : Cond.methodLink "ExpressHouseLaw" 123 ⟨"ExpressHouse", "work", "()I"⟩ ∈ xBIG := xin_9 (List.mem_of_getElem? (i := 139) rfl) rfl
theorem xw_172 : Cond.constant "ExpressHouseLaw" 126 (Int32.ofNat 1970496868) ∈ xBIG := xin_9 (List.mem_of_getElem? (i := 143) rfl) rfl
theorem xw_173 : Cond.constant "ExpressHouseLaw" 127 (Int32.ofNat 1768826915) ∈ xBIG := xin_9 (List.mem_of_getElem? (i := 144) rfl) rfl
theorem xw_174 : Cond.instanceMethod ⟨"ExpressHouse", "write", "()I"⟩ ∈ xBIG := xin_6 (List.mem_of_getElem? (i := 118) rfl) rfl
theorem xw_175 : Cond.selects "ExpressHouse" ⟨"ExpressHouse", "write", "()I"⟩ ⟨"ExpressHouse", "write", "()I"⟩ ∈ xBIG := xin_6 (List.mem_of_getElem? (i := 119) rfl) rfl
theorem xw_176 : Cond.methodLink "ExpressHouseLaw" 128 ⟨"ExpressHouse", "write", "()I"⟩ ∈ xBIG := xin_6 (List.mem_of_getElem? (i := 117) rfl) rfl
theorem xw_177 : Cond.instanceMethod ⟨"ExpressHouse", "count", "(I)I"⟩ ∈ xBIG := xin_4 (List.mem_of_getElem? (i := 4) rfl) rfl
theorem xw_178 : Cond.selects "ExpressHouse" ⟨"ExpressHouse", "count", "(I)I"⟩ ⟨"ExpressHouse", "count", "(I)I"⟩ ∈ xBIG := xin_4 (List.mem_of_getElem? (i := 5) rfl) rfl
theorem xw_179 : Cond.methodLink "ExpressHouseLaw" 96 ⟨"ExpressHouse", "count", "(I)I"⟩ ∈ xBIG := xin_4 (List.mem_of_getElem? (i := 3) rfl) rfl
theorem xw_180 : Cond.instanceMethod ⟨"ExpressHouse", "row", "(I)I"⟩ ∈ xBIG := xin_4 (List.mem_of_getElem? (i := 68) rfl) rfl
theorem xw_181 : Cond.selects "ExpressHouse" ⟨"ExpressHouse", "row", "(I)I"⟩ ⟨"ExpressHouse", "row", "(I)I"⟩ ∈ xBIG := xin_4 (List.mem_of_getElem? (i := 69) rfl) rfl
theorem xw_182 : Cond.methodLink "ExpressHouseLaw" 131 ⟨"ExpressHouse", "row", "(I)I"⟩ ∈ xBIG := xin_4 (List.mem_of_getElem? (i := 67) rfl) rfl
theorem xw_183 : Cond.instanceMethod ⟨"ExpressHouse", "keep", "(I)I"⟩ ∈ xBIG := xin_6 (List.mem_of_getElem? (i := 13) rfl) rfl
theorem xw_184 : Cond.selects "ExpressHouse" ⟨"ExpressHouse", "keep", "(I)I"⟩ ⟨"ExpressHouse", "keep", "(I)I"⟩ ∈ xBIG := xin_6 (List.mem_of_getElem? (i := 14) rfl) rfl
theorem xw_185 : Cond.methodLink "ExpressHouseLaw" 134 ⟨"ExpressHouse", "keep", "(I)I"⟩ ∈ xBIG := xin_6 (List.mem_of_getElem? (i := 12) rfl) rfl
theorem xw_186 : Cond.instanceMethod ⟨"ExpressHouse", "commit", "()I"⟩ ∈ xBIG := xin_9 (List.mem_of_getElem? (i := 149) rfl) rfl
theorem xw_187 : Cond.selects "ExpressHouse" ⟨"ExpressHouse", "commit", "()I"⟩ ⟨"ExpressHouse", "commit", "()I"⟩ ∈ xBIG := xin_9 (List.mem_of_getElem? (i := 150) rfl) rfl
theorem xw_188 : Cond.methodLink "ExpressHouseLaw" 137 ⟨"ExpressHouse", "commit", "()I"⟩ ∈ xBIG := xin_9 (List.mem_of_getElem? (i := 148) rfl) rfl
theorem xw_189 : Cond.instanceMethod ⟨"ExpressHouse", "abort", "()I"⟩ ∈ xBIG := xin_6 (List.mem_of_getElem? (i := 201) rfl) rfl
theorem xw_190 : Cond.selects "ExpressHouse" ⟨"ExpressHouse", "abort", "()I"⟩ ⟨"ExpressHouse", "abort", "()I"⟩ ∈ xBIG := xin_6 (List.mem_of_getElem? (i := 202) rfl) rfl
theorem xw_191 : Cond.methodLink "ExpressHouseLaw" 140 ⟨"ExpressHouse", "abort", "()I"⟩ ∈ xBIG := xin_6 (List.mem_of_getElem? (i := 200) rfl) rfl
theorem xw_192 : Cond.instanceMethod ⟨"ExpressHouse", "take", "(I)I"⟩ ∈ xBIG := xin_9 (List.mem_of_getElem? (i := 157) rfl) rfl
theorem xw_193 : Cond.selects "ExpressHouse" ⟨"ExpressHouse", "take", "(I)I"⟩ ⟨"ExpressHouse", "take", "(I)I"⟩ ∈ xBIG := xin_9 (List.mem_of_getElem? (i := 158) rfl) rfl
theorem xw_194 : Cond.methodLink "ExpressHouseLaw" 143 ⟨"ExpressHouse", "take", "(I)I"⟩ ∈ xBIG := xin_9 (List.mem_of_getElem? (i := 156) rfl) rfl
theorem xw_195 : Cond.instanceMethod ⟨"ExpressHouse", "combinations", "(I)I"⟩ ∈ xBIG := xin_4 (List.mem_of_getElem? (i := 52) rfl) rfl
theorem xw_196 : Cond.selects "ExpressHouse" ⟨"ExpressHouse", "combinations", "(I)I"⟩ ⟨"ExpressHouse", "combinations", "(I)I"⟩ ∈ xBIG := xin_4 (List.mem_of_getElem? (i := 53) rfl) rfl
theorem xw_197 : Cond.methodLink "ExpressHouseLaw" 146 ⟨"ExpressHouse", "combinations", "(I)I"⟩ ∈ xBIG := xin_4 (List.mem_of_getElem? (i := 51) rfl) rfl
theorem xw_198 : Cond.constant "ExpressHouseLaw" 149 (Int32.ofNat 590359328) ∈ xBIG := xin_9 (List.mem_of_getElem? (i := 161) rfl) rfl
theorem xw_199 : Cond.instanceMethod ⟨"ExpressHouse", "fault", "()I"⟩ ∈ xBIG := xin_9 (List.mem_of_getElem? (i := 163) rfl) rfl
theorem xw_200 : Cond.selects "ExpressHouse" ⟨"ExpressHouse", "fault", "()I"⟩ ⟨"ExpressHouse", "fault", "()I"⟩ ∈ xBIG := xin_9 (List.mem_of_getElem? (i := 164) rfl) rfl
theorem xw_201 : Cond.methodLink "ExpressHouseLaw" 150 ⟨"ExpressHouse", "fault", "()I"⟩ ∈ xBIG := xin_9 (List.mem_of_getElem? (i := 162) rfl) rfl
theorem xw_202 : Cond.constant "ExpressHouseLaw" 153 (Int32.ofNat 590429537) ∈ xBIG := xin_9 (List.mem_of_getElem? (i := 166) rfl) rfl
theorem xw_203 : Cond.constant "ExpressHouseLaw" 154 (Int32.ofNat 673790752) ∈ xBIG := xin_9 (List.mem_of_getElem? (i := 167) rfl) rfl
theorem xw_204 : Cond.instanceMethod ⟨"ExpressHouse", "read", "()I"⟩ ∈ xBIG := xin_9 (List.mem_of_getElem? (i := 169) rfl) rfl
theorem xw_205 : Cond.selects "ExpressHouse" ⟨"ExpressHouse", "read", "()I"⟩ ⟨"ExpressHouse", "read", "()I"⟩ ∈ xBIG := xin_9 (List.mem_of_getElem? (i := 170) rfl) rfl
theorem xw_206 : Cond.methodLink "ExpressHouseLaw" 155 ⟨"ExpressHouse", "read", "()I"⟩ ∈ xBIG := xin_9 (List.mem_of_getElem? (i := 168) rfl) rfl
theorem xw_207 : Cond.methodLink "ExpressHouse$Tokens" 3 ⟨"java/lang/Object", "<init>", "()V"⟩ ∈ xBIG := xin_1 (List.mem_of_getElem? (i := 36) rfl) rfl
theorem xw_208 : Cond.methodLink "ExpressHouse$Tokens" 13 ⟨"ExpressHouse$Tokens", "codesOf", "(Ljava/lang/String;)[J"⟩ ∈ xBIG := xin_1 (List.mem_of_getElem? (i := 38) rfl) rfl
theorem xw_209 : Cond.static ⟨"ExpressHouse$Tokens", "codesOf", "(Ljava/lang/String;)[J"⟩ ∈ xBIG := xin_1 (List.mem_of_getElem? (i := 39) rfl) rfl
theorem xw_210 : Cond.fieldLink "ExpressHouse$Tokens" 17 "ExpressHouse$Tokens" "words" "[J" ∈ xBIG := xin_1 (List.mem_of_getElem? (i := 93) rfl) rfl
theorem xw_211 : Cond.arrayClass .int ∈ xBIG := xin_1 (List.mem_of_getElem? (i := 149) rfl) rfl
theorem xw_212 : Cond.fieldLink "ExpressHouse$Tokens" 21 "ExpressHouse$Tokens" "kinds" "[I" ∈ xBIG := xin_1 (List.mem_of_getElem? (i := 94) rfl) rfl
theorem xw_213 : Cond.fieldLink "ExpressHouse$Tokens" 25 "ExpressHouse$Tokens" "places" "[I" ∈ xBIG := xin_1 (List.mem_of_getElem? (i := 95) rfl) rfl
theorem xw_214 : Cond.arrayClass .long ∈ xBIG := xin_1 (List.mem_of_getElem? (i := 148) rfl) rfl
theorem xw_215 : Cond.fieldLink "ExpressHouse$Tokens" 28 "ExpressHouse$Tokens" "values" "[J" ∈ xBIG := xin_1 (List.mem_of_getElem? (i := 96) rfl) rfl
theorem xw_216 : Cond.methodLink "ExpressHouse$Schema" 3 ⟨"java/lang/Object", "<init>", "()V"⟩ ∈ xBIG := xin_1 (List.mem_of_getElem? (i := 157) rfl) rfl
theorem xw_217 : Cond.methodLink "ExpressHouse$Schema" 13 ⟨"ExpressHouse$Tokens", "codesOf", "(Ljava/lang/String;)[J"⟩ ∈ xBIG := xin_1 (List.mem_of_getElem? (i := 159) rfl) rfl
theorem xw_218 : Cond.fieldLink "ExpressHouse$Schema" 19 "ExpressHouse$Schema" "builtIn" "[J" ∈ xBIG := xin_1 (List.mem_of_getElem? (i := 164) rfl) rfl
theorem xw_219 : Cond.classLink "ExpressHouse$Schema" 23 "[[J" ∈ xBIG := xin_1 (List.mem_of_getElem? (i := 160) rfl) rfl
theorem xw_220 : Cond.fieldLink "ExpressHouse$Schema" 25 "ExpressHouse$Schema" "names" "[[J" ∈ xBIG := xin_1 (List.mem_of_getElem? (i := 165) rfl) rfl
theorem xw_221 : Cond.fieldLink "ExpressHouse$Schema" 28 "ExpressHouse$Schema" "counts" "[I" ∈ xBIG := xin_1 (List.mem_of_getElem? (i := 167) rfl) rfl
theorem xw_222 : Cond.fieldLink "ExpressHouse$Schema" 32 "ExpressHouse$Schema" "itemTypes" "[I" ∈ xBIG := xin_1 (List.mem_of_getElem? (i := 172) rfl) rfl
theorem xw_223 : Cond.classLink "ExpressHouse$Schema" 35 "[[I" ∈ xBIG := xin_1 (List.mem_of_getElem? (i := 162) rfl) rfl
theorem xw_224 : Cond.fieldLink "ExpressHouse$Schema" 37 "ExpressHouse$Schema" "types" "[[I" ∈ xBIG := xin_1 (List.mem_of_getElem? (i := 175) rfl) rfl
theorem xw_225 : Cond.fieldLink "ExpressHouse$Schema" 40 "ExpressHouse$Schema" "entities" "[[I" ∈ xBIG := xin_1 (List.mem_of_getElem? (i := 177) rfl) rfl
theorem xw_226 : Cond.fieldLink "ExpressHouse$Schema" 43 "ExpressHouse$Schema" "uniques" "[J" ∈ xBIG := xin_1 (List.mem_of_getElem? (i := 183) rfl) rfl
theorem xw_227 : Cond.fieldLink "ExpressHouse$Schema" 46 "ExpressHouse$Schema" "attributes" "[[I" ∈ xBIG := xin_1 (List.mem_of_getElem? (i := 186) rfl) rfl
theorem xw_228 : Cond.fieldLink "ExpressHouse$Schema" 49 "ExpressHouse$Schema" "kinds" "[[I" ∈ xBIG := xin_1 (List.mem_of_getElem? (i := 195) rfl) rfl
theorem xw_229 : Cond.fieldLink "ExpressHouse$Schema" 52 "ExpressHouse$Schema" "functions" "[[I" ∈ xBIG := xin_1 (List.mem_of_getElem? (i := 198) rfl) rfl
theorem xw_230 : Cond.fieldLink "ExpressHouse$Schema" 55 "ExpressHouse$Schema" "wheres" "[I" ∈ xBIG := xin_1 (List.mem_of_getElem? (i := 202) rfl) rfl
theorem xw_231 : Cond.fieldLink "ExpressHouse$Schema" 58 "ExpressHouse$Schema" "whereStarts" "[I" ∈ xBIG := xin_1 (List.mem_of_getElem? (i := 205) rfl) rfl
theorem xw_232 : Cond.fieldLink "ExpressHouse$Schema" 61 "ExpressHouse$Schema" "code" "[I" ∈ xBIG := xin_1 (List.mem_of_getElem? (i := 207) rfl) rfl
theorem xw_233 : Cond.fieldLink "ExpressHouse$Schema" 64 "ExpressHouse$Schema" "combinationCounts" "[I" ∈ xBIG := xin_1 (List.mem_of_getElem? (i := 216) rfl) rfl
theorem xw_234 : Cond.fieldLink "ExpressHouse$Schema" 67 "ExpressHouse$Schema" "overNames" "[I" ∈ xBIG := xin_1 (List.mem_of_getElem? (i := 218) rfl) rfl
theorem xw_235 : Cond.arrayClass .boolean ∈ xBIG := xin_2 (List.mem_of_getElem? (i := 19) rfl) rfl
theorem xw_236 : Cond.fieldLink "ExpressHouse$Schema" 70 "ExpressHouse$Schema" "overHits" "[Z" ∈ xBIG := xin_1 (List.mem_of_getElem? (i := 219) rfl) rfl
theorem xw_237 : Cond.methodLink "ExpressHouse$Population" 1 ⟨"java/lang/Object", "<init>", "()V"⟩ ∈ xBIG := xin_2 (List.mem_of_getElem? (i := 23) rfl) rfl
theorem xw_238 : Cond.classLink "ExpressHouse$Population" 7 "ExpressHouse$Value" ∈ xBIG := xin_2 (List.mem_of_getElem? (i := 24) rfl) rfl
theorem xw_239 : Cond.fieldLink "ExpressHouse$Population" 12 "ExpressHouse$Population" "nothing" "LExpressHouse$Value;" ∈ xBIG := xin_2 (List.mem_of_getElem? (i := 97) rfl) rfl
theorem xw_240 : Cond.fieldLink "ExpressHouse$Population" 18 "ExpressHouse$Population" "combinations" "[I" ∈ xBIG := xin_2 (List.mem_of_getElem? (i := 106) rfl) rfl
theorem xw_241 : Cond.fieldLink "ExpressHouse$Population" 22 "ExpressHouse$Population" "held" "[LExpressHouse$Value;" ∈ xBIG := xin_2 (List.mem_of_getElem? (i := 107) rfl) rfl
theorem xw_242 : Cond.fieldLink "ExpressHouse$Population" 26 "ExpressHouse$Population" "savedCombinations" "[I" ∈ xBIG := xin_2 (List.mem_of_getElem? (i := 110) rfl) rfl
theorem xw_243 : Cond.fieldLink "ExpressHouse$Population" 29 "ExpressHouse$Population" "savedHeld" "[LExpressHouse$Value;" ∈ xBIG := xin_2 (List.mem_of_getElem? (i := 111) rfl) rfl
theorem xw_244 : Cond.fieldLink "ExpressHouse$Population" 32 "ExpressHouse$Population" "likenesses" "[I" ∈ xBIG := xin_2 (List.mem_of_getElem? (i := 112) rfl) rfl
theorem xw_245 : Cond.fieldLink "ExpressHouse$Population" 35 "ExpressHouse$Population" "finer" "[I" ∈ xBIG := xin_2 (List.mem_of_getElem? (i := 113) rfl) rfl
theorem xw_246 : Cond.fieldLink "ExpressHouse$Population" 38 "ExpressHouse$Population" "stale" "Z" ∈ xBIG := xin_2 (List.mem_of_getElem? (i := 114) rfl) rfl
theorem xw_247 : Cond.fieldLink "ExpressHouse$Population" 42 "ExpressHouse$Population" "schema" "LExpressHouse$Schema;" ∈ xBIG := xin_2 (List.mem_of_getElem? (i := 91) rfl) rfl
theorem xw_248 : Cond.methodLink "ExpressHouse$Expressions" 3 ⟨"java/lang/Object", "<init>", "()V"⟩ ∈ xBIG := xin_2 (List.mem_of_getElem? (i := 145) rfl) rfl
theorem xw_249 : Cond.fieldLink "ExpressHouse$Expressions" 9 "ExpressHouse$Expressions" "hiding" "[J" ∈ xBIG := xin_2 (List.mem_of_getElem? (i := 151) rfl) rfl
theorem xw_250 : Cond.fieldLink "ExpressHouse$Expressions" 15 "ExpressHouse$Expressions" "hidingSlots" "[I" ∈ xBIG := xin_2 (List.mem_of_getElem? (i := 152) rfl) rfl
theorem xw_251 : Cond.fieldLink "ExpressHouse$Expressions" 21 "ExpressHouse$Expressions" "locals" "[J" ∈ xBIG := xin_2 (List.mem_of_getElem? (i := 154) rfl) rfl
theorem xw_252 : Cond.fieldLink "ExpressHouse$Expressions" 24 "ExpressHouse$Expressions" "tokens" "LExpressHouse$Tokens;" ∈ xBIG := xin_2 (List.mem_of_getElem? (i := 146) rfl) rfl
theorem xw_253 : Cond.fieldLink "ExpressHouse$Expressions" 28 "ExpressHouse$Expressions" "schema" "LExpressHouse$Schema;" ∈ xBIG := xin_2 (List.mem_of_getElem? (i := 147) rfl) rfl
theorem xw_254 : Cond.methodLink "ExpressHouse$SchemaReader" 3 ⟨"java/lang/Object", "<init>", "()V"⟩ ∈ xBIG := xin_2 (List.mem_of_getElem? (i := 190) rfl) rfl
theorem xw_255 : Cond.classLink "ExpressHouse$SchemaReader" 9 "ExpressHouse$Schema" ∈ xBIG := xin_2 (List.mem_of_getElem? (i := 191) rfl) rfl
theorem xw_256 : Cond.fieldLink "ExpressHouse$SchemaReader" 12 "ExpressHouse$SchemaReader" "draft" "LExpressHouse$Schema;" ∈ xBIG := xin_2 (List.mem_of_getElem? (i := 195) rfl) rfl
theorem xw_257 : Cond.fieldLink "ExpressHouse$SchemaReader" 18 "ExpressHouse$SchemaReader" "met" "[I" ∈ xBIG := xin_2 (List.mem_of_getElem? (i := 197) rfl) rfl
theorem xw_258 : Cond.fieldLink "ExpressHouse$SchemaReader" 22 "ExpressHouse$SchemaReader" "tokens" "LExpressHouse$Tokens;" ∈ xBIG := xin_2 (List.mem_of_getElem? (i := 193) rfl) rfl
theorem xw_259 : Cond.fieldLink "ExpressHouse$SchemaReader" 26 "ExpressHouse$SchemaReader" "expressions" "LExpressHouse$Expressions;" ∈ xBIG := xin_2 (List.mem_of_getElem? (i := 194) rfl) rfl
theorem xw_260 : Cond.methodLink "ExpressHouse$Machine" 3 ⟨"java/lang/Object", "<init>", "()V"⟩ ∈ xBIG := xin_2 (List.mem_of_getElem? (i := 229) rfl) rfl
theorem xw_261 : Cond.classLink "ExpressHouse$Machine" 9 "ExpressHouse$Value" ∈ xBIG := xin_2 (List.mem_of_getElem? (i := 230) rfl) rfl
theorem xw_262 : Cond.fieldLink "ExpressHouse$Machine" 11 "ExpressHouse$Machine" "stack" "[LExpressHouse$Value;" ∈ xBIG := xin_3 (List.mem_of_getElem? (i := 10) rfl) rfl
theorem xw_263 : Cond.fieldLink "ExpressHouse$Machine" 17 "ExpressHouse$Machine" "locals" "[LExpressHouse$Value;" ∈ xBIG := xin_3 (List.mem_of_getElem? (i := 12) rfl) rfl
theorem xw_264 : Cond.fieldLink "ExpressHouse$Machine" 20 "ExpressHouse$Machine" "subjects" "[LExpressHouse$Value;" ∈ xBIG := xin_3 (List.mem_of_getElem? (i := 13) rfl) rfl
theorem xw_265 : Cond.fieldLink "ExpressHouse$Machine" 23 "ExpressHouse$Machine" "positions" "[I" ∈ xBIG := xin_3 (List.mem_of_getElem? (i := 14) rfl) rfl
theorem xw_266 : Cond.fieldLink "ExpressHouse$Machine" 27 "ExpressHouse$Machine" "ends" "[I" ∈ xBIG := xin_3 (List.mem_of_getElem? (i := 15) rfl) rfl
theorem xw_267 : Cond.fieldLink "ExpressHouse$Machine" 30 "ExpressHouse$Machine" "strides" "[I" ∈ xBIG := xin_3 (List.mem_of_getElem? (i := 16) rfl) rfl
theorem xw_268 : Cond.fieldLink "ExpressHouse$Machine" 33 "ExpressHouse$Machine" "returns" "[I" ∈ xBIG := xin_3 (List.mem_of_getElem? (i := 18) rfl) rfl
theorem xw_269 : Cond.fieldLink "ExpressHouse$Machine" 36 "ExpressHouse$Machine" "results" "[I" ∈ xBIG := xin_3 (List.mem_of_getElem? (i := 19) rfl) rfl
theorem xw_270 : Cond.fieldLink "ExpressHouse$Machine" 39 "ExpressHouse$Machine" "floors" "[I" ∈ xBIG := xin_3 (List.mem_of_getElem? (i := 20) rfl) rfl
theorem xw_271 : Cond.fieldLink "ExpressHouse$Machine" 42 "ExpressHouse$Machine" "selves" "[LExpressHouse$Value;" ∈ xBIG := xin_3 (List.mem_of_getElem? (i := 21) rfl) rfl
theorem xw_272 : Cond.fieldLink "ExpressHouse$Machine" 45 "ExpressHouse$Machine" "limit" "I" ∈ xBIG := xin_3 (List.mem_of_getElem? (i := 26) rfl) rfl
theorem xw_273 : Cond.fieldLink "ExpressHouse$Machine" 49 "ExpressHouse$Machine" "people" "LExpressHouse$Population;" ∈ xBIG := xin_3 (List.mem_of_getElem? (i := 7) rfl) rfl
theorem xw_274 : Cond.classLink "ExpressHouse$Machine" 53 "ExpressHouse$Operators" ∈ xBIG := xin_2 (List.mem_of_getElem? (i := 231) rfl) rfl
theorem xw_275 : Cond.instantiable "ExpressHouse$Operators" 3 ∈ xBIG := xin_2 (List.mem_of_getElem? (i := 232) rfl) rfl
theorem xw_276 : Cond.initialized "ExpressHouse$Operators" ∈ xBIG := xin_1 (List.mem_of_getElem? (i := 13) rfl) rfl
theorem xw_277 : Cond.instanceMethod ⟨"ExpressHouse$Operators", "<init>", "(LExpressHouse$Population;)V"⟩ ∈ xBIG := xin_2 (List.mem_of_getElem? (i := 234) rfl) rfl
theorem xw_278 : Cond.methodLink "ExpressHouse$Machine" 55 ⟨"ExpressHouse$Operators", "<init>", "(LExpressHouse$Population;)V"⟩ ∈ xBIG := xin_2 (List.mem_of_getElem? (i := 233) rfl) rfl
theorem xw_279 : Cond.fieldLink "ExpressHouse$Machine" 58 "ExpressHouse$Machine" "operators" "LExpressHouse$Operators;" ∈ xBIG := xin_3 (List.mem_of_getElem? (i := 8) rfl) rfl
theorem xw_280 : Cond.fieldLink "ExpressHouse$Machine" 62 "ExpressHouse$Population" "nothing" "LExpressHouse$Value;" ∈ xBIG := xin_2 (List.mem_of_getElem? (i := 99) rfl) rfl
theorem xw_281 : Cond.fieldLink "ExpressHouse$Machine" 68 "ExpressHouse$Machine" "nothing" "LExpressHouse$Value;" ∈ xBIG := xin_3 (List.mem_of_getElem? (i := 9) rfl) rfl
theorem xw_282 : Cond.methodLink "ExpressHouse$Judge" 3 ⟨"java/lang/Object", "<init>", "()V"⟩ ∈ xBIG := xin_3 (List.mem_of_getElem? (i := 77) rfl) rfl
theorem xw_283 : Cond.fieldLink "ExpressHouse$Judge" 11 "ExpressHouse$Judge" "instances" "[I" ∈ xBIG := xin_3 (List.mem_of_getElem? (i := 80) rfl) rfl
theorem xw_284 : Cond.fieldLink "ExpressHouse$Judge" 17 "ExpressHouse$Judge" "verdicts" "[I" ∈ xBIG := xin_3 (List.mem_of_getElem? (i := 82) rfl) rfl
theorem xw_285 : Cond.fieldLink "ExpressHouse$Judge" 20 "ExpressHouse$Judge" "people" "LExpressHouse$Population;" ∈ xBIG := xin_3 (List.mem_of_getElem? (i := 78) rfl) rfl
theorem xw_286 : Cond.fieldLink "ExpressHouse$Judge" 24 "ExpressHouse$Judge" "machine" "LExpressHouse$Machine;" ∈ xBIG := xin_3 (List.mem_of_getElem? (i := 79) rfl) rfl
theorem xw_287 : Cond.methodLink "ExpressHouse$FileReader" 3 ⟨"java/lang/Object", "<init>", "()V"⟩ ∈ xBIG := xin_3 (List.mem_of_getElem? (i := 105) rfl) rfl
theorem xw_288 : Cond.fieldLink "ExpressHouse$FileReader" 9 "ExpressHouse$FileReader" "text" "[B" ∈ xBIG := xin_3 (List.mem_of_getElem? (i := 108) rfl) rfl
theorem xw_289 : Cond.fieldLink "ExpressHouse$FileReader" 15 "ExpressHouse$FileReader" "numbers" "[I" ∈ xBIG := xin_3 (List.mem_of_getElem? (i := 115) rfl) rfl
theorem xw_290 : Cond.fieldLink "ExpressHouse$FileReader" 19 "ExpressHouse$FileReader" "combinations" "[I" ∈ xBIG := xin_3 (List.mem_of_getElem? (i := 116) rfl) rfl
theorem xw_291 : Cond.fieldLink "ExpressHouse$FileReader" 22 "ExpressHouse$FileReader" "sound" "[Z" ∈ xBIG := xin_3 (List.mem_of_getElem? (i := 117) rfl) rfl
theorem xw_292 : Cond.fieldLink "ExpressHouse$FileReader" 28 "ExpressHouse$FileReader" "cells" "[J" ∈ xBIG := xin_3 (List.mem_of_getElem? (i := 123) rfl) rfl
theorem xw_293 : Cond.fieldLink "ExpressHouse$FileReader" 34 "ExpressHouse$FileReader" "toldNumbers" "[I" ∈ xBIG := xin_3 (List.mem_of_getElem? (i := 124) rfl) rfl
theorem xw_294 : Cond.fieldLink "ExpressHouse$FileReader" 37 "ExpressHouse$FileReader" "people" "LExpressHouse$Population;" ∈ xBIG := xin_3 (List.mem_of_getElem? (i := 106) rfl) rfl
theorem xw_295 : Cond.fieldLink "ExpressHouse$FileReader" 41 "ExpressHouse$FileReader" "tokens" "LExpressHouse$Tokens;" ∈ xBIG := xin_3 (List.mem_of_getElem? (i := 107) rfl) rfl
theorem xw_296 : Cond.methodLink "ExpressHouse$FileWriter" 3 ⟨"java/lang/Object", "<init>", "()V"⟩ ∈ xBIG := xin_3 (List.mem_of_getElem? (i := 173) rfl) rfl
theorem xw_297 : Cond.fieldLink "ExpressHouse$FileWriter" 11 "ExpressHouse$FileWriter" "bytes" "[B" ∈ xBIG := xin_3 (List.mem_of_getElem? (i := 175) rfl) rfl
theorem xw_298 : Cond.fieldLink "ExpressHouse$FileWriter" 15 "ExpressHouse$FileWriter" "draft" "[B" ∈ xBIG := xin_3 (List.mem_of_getElem? (i := 179) rfl) rfl
theorem xw_299 : Cond.fieldLink "ExpressHouse$FileWriter" 18 "ExpressHouse$FileWriter" "people" "LExpressHouse$Population;" ∈ xBIG := xin_3 (List.mem_of_getElem? (i := 174) rfl) rfl
theorem xw_300 : Cond.methodLink "ExpressHouse$Value" 1 ⟨"java/lang/Object", "<init>", "()V"⟩ ∈ xBIG := xin_2 (List.mem_of_getElem? (i := 29) rfl) rfl
theorem xw_301 : Cond.fieldLink "ExpressHouse$Value" 7 "ExpressHouse$Value" "kind" "I" ∈ xBIG := xin_2 (List.mem_of_getElem? (i := 32) rfl) rfl
theorem xw_302 : Cond.fieldLink "ExpressHouse$Value" 13 "ExpressHouse$Value" "bits" "J" ∈ xBIG := xin_2 (List.mem_of_getElem? (i := 40) rfl) rfl
theorem xw_303 : Cond.fieldLink "ExpressHouse$Value" 17 "ExpressHouse$Value" "sort" "I" ∈ xBIG := xin_2 (List.mem_of_getElem? (i := 48) rfl) rfl
theorem xw_304 : Cond.fieldLink "ExpressHouse$Value" 20 "ExpressHouse$Value" "low" "I" ∈ xBIG := xin_2 (List.mem_of_getElem? (i := 54) rfl) rfl
theorem xw_305 : Cond.fieldLink "ExpressHouse$Value" 23 "ExpressHouse$Value" "lane" "I" ∈ xBIG := xin_2 (List.mem_of_getElem? (i := 58) rfl) rfl
theorem xw_306 : Cond.fieldLink "ExpressHouse$Value" 26 "ExpressHouse$Value" "holes" "I" ∈ xBIG := xin_2 (List.mem_of_getElem? (i := 63) rfl) rfl
theorem xw_307 : Cond.fieldLink "ExpressHouse$Value" 29 "ExpressHouse$Value" "NO_CELLS" "[J" ∈ xBIG := xin_2 (List.mem_of_getElem? (i := 30) rfl) rfl
theorem xw_308 : Cond.fieldLink "ExpressHouse$Value" 33 "ExpressHouse$Value" "cells" "[J" ∈ xBIG := xin_2 (List.mem_of_getElem? (i := 67) rfl) rfl
theorem xw_309 : Cond.fieldLink "ExpressHouse" 107 "ExpressHouse" "taped" "I" ∈ xBIG := xin_3 (List.mem_of_getElem? (i := 199) rfl) rfl
theorem xw_310 : Cond.instanceMethod ⟨"ExpressHouse", "append", "(I)V"⟩ ∈ xBIG := xin_6 (List.mem_of_getElem? (i := 230) rfl) rfl
theorem xw_311 : Cond.selects "ExpressHouse" ⟨"ExpressHouse", "append", "(I)V"⟩ ⟨"ExpressHouse", "append", "(I)V"⟩ ∈ xBIG := xin_0 (List.mem_of_getElem? (i := 55) rfl) rfl
theorem xw_312 : Cond.methodLink "ExpressHouse" 111 ⟨"ExpressHouse", "append", "(I)V"⟩ ∈ xBIG := xin_6 (List.mem_of_getElem? (i := 228) rfl) rfl
theorem xw_313 : Cond.instanceMethod ⟨"ExpressHouse$Tokens", "load", "([BI)V"⟩ ∈ xBIG := xin_7 (List.mem_of_getElem? (i := 63) rfl) rfl
theorem xw_314 : Cond.selects "ExpressHouse$Tokens" ⟨"ExpressHouse$Tokens", "load", "([BI)V"⟩ ⟨"ExpressHouse$Tokens", "load", "([BI)V"⟩ ∈ xBIG := xin_7 (List.mem_of_getElem? (i := 64) rfl) rfl
theorem xw_315 : Cond.methodLink "ExpressHouse" 115 ⟨"ExpressHouse$Tokens", "load", "([BI)V"⟩ ∈ xBIG := xin_7 (List.mem_of_getElem? (i := 62) rfl) rfl
theorem xw_316 : Cond.instanceMethod ⟨"ExpressHouse$SchemaReader", "start", "()V"⟩ ∈ xBIG := xin_7 (List.mem_of_getElem? (i := 116) rfl) rfl
theorem xw_317 : Cond.selects "ExpressHouse$SchemaReader" ⟨"ExpressHouse$SchemaReader", "start", "()V"⟩ ⟨"ExpressHouse$SchemaReader", "start", "()V"⟩ ∈ xBIG := xin_7 (List.mem_of_getElem? (i := 117) rfl) rfl
theorem xw_318 : Cond.methodLink "ExpressHouse" 119 ⟨"ExpressHouse$SchemaReader", "start", "()V"⟩ ∈ xBIG := xin_7 (List.mem_of_getElem? (i := 115) rfl) rfl
theorem xw_319 : Cond.instanceMethod ⟨"ExpressHouse$SchemaReader", "readThrough", "(I)V"⟩ ∈ xBIG := xin_7 (List.mem_of_getElem? (i := 130) rfl) rfl
theorem xw_320 : Cond.selects "ExpressHouse$SchemaReader" ⟨"ExpressHouse$SchemaReader", "readThrough", "(I)V"⟩ ⟨"ExpressHouse$SchemaReader", "readThrough", "(I)V"⟩ ∈ xBIG := xin_7 (List.mem_of_getElem? (i := 131) rfl) rfl
theorem xw_321 : Cond.methodLink "ExpressHouse" 122 ⟨"ExpressHouse$SchemaReader", "readThrough", "(I)V"⟩ ∈ xBIG := xin_7 (List.mem_of_getElem? (i := 129) rfl) rfl
theorem xw_322 : Cond.instanceMethod ⟨"ExpressHouse$Tokens", "outcome", "()I"⟩ ∈ xBIG := xin_9 (List.mem_of_getElem? (i := 67) rfl) rfl
theorem xw_323 : Cond.selects "ExpressHouse$Tokens" ⟨"ExpressHouse$Tokens", "outcome", "()I"⟩ ⟨"ExpressHouse$Tokens", "outcome", "()I"⟩ ∈ xBIG := xin_9 (List.mem_of_getElem? (i := 68) rfl) rfl
theorem xw_324 : Cond.methodLink "ExpressHouse" 125 ⟨"ExpressHouse$Tokens", "outcome", "()I"⟩ ∈ xBIG := xin_9 (List.mem_of_getElem? (i := 66) rfl) rfl
theorem xw_325 : Cond.fieldLink "ExpressHouse" 129 "ExpressHouse$Tokens" "fault" "I" ∈ xBIG := xin_1 (List.mem_of_getElem? (i := 108) rfl) rfl
theorem xw_326 : Cond.fieldLink "ExpressHouse" 132 "ExpressHouse" "latestFault" "I" ∈ xBIG := xin_3 (List.mem_of_getElem? (i := 211) rfl) rfl
theorem xw_327 : Cond.instanceMethod ⟨"ExpressHouse$SchemaReader", "exchange", "(LExpressHouse$Schema;)LExpressHouse$Schema;"⟩ ∈ xBIG := xin_9 (List.mem_of_getElem? (i := 71) rfl) rfl
theorem xw_328 : Cond.selects "ExpressHouse$SchemaReader" ⟨"ExpressHouse$SchemaReader", "exchange", "(LExpressHouse$Schema;)LExpressHouse$Schema;"⟩ ⟨"ExpressHouse$SchemaReader", "exchange", "(LExpressHouse$Schema;)LExpressHouse$Schema;"⟩ ∈ xBIG := xin_9 (List.mem_of_getElem? (i := 72) rfl) rfl
theorem xw_329 : Cond.methodLink "ExpressHouse" 135 ⟨"ExpressHouse$SchemaReader", "exchange", "(LExpressHouse$Schema;)LExpressHouse$Schema;"⟩ ∈ xBIG := xin_9 (List.mem_of_getElem? (i := 70) rfl) rfl
theorem xw_330 : Cond.instanceMethod ⟨"ExpressHouse$Population", "clear", "()V"⟩ ∈ xBIG := xin_9 (List.mem_of_getElem? (i := 75) rfl) rfl
theorem xw_331 : Cond.selects "ExpressHouse$Population" ⟨"ExpressHouse$Population", "clear", "()V"⟩ ⟨"ExpressHouse$Population", "clear", "()V"⟩ ∈ xBIG := xin_9 (List.mem_of_getElem? (i := 76) rfl) rfl
theorem xw_332 : Cond.methodLink "ExpressHouse" 139 ⟨"ExpressHouse$Population", "clear", "()V"⟩ ∈ xBIG := xin_9 (List.mem_of_getElem? (i := 74) rfl) rfl
theorem xw_333 : Cond.instanceMethod ⟨"ExpressHouse$Judge", "clear", "()V"⟩ ∈ xBIG := xin_6 (List.mem_of_getElem? (i := 38) rfl) rfl
theorem xw_334 : Cond.selects "ExpressHouse$Judge" ⟨"ExpressHouse$Judge", "clear", "()V"⟩ ⟨"ExpressHouse$Judge", "clear", "()V"⟩ ∈ xBIG := xin_6 (List.mem_of_getElem? (i := 39) rfl) rfl
theorem xw_335 : Cond.methodLink "ExpressHouse" 142 ⟨"ExpressHouse$Judge", "clear", "()V"⟩ ∈ xBIG := xin_9 (List.mem_of_getElem? (i := 78) rfl) rfl
theorem xw_336 : Cond.instanceMethod ⟨"ExpressHouse$FileReader", "forget", "()V"⟩ ∈ xBIG := xin_9 (List.mem_of_getElem? (i := 80) rfl) rfl
theorem xw_337 : Cond.selects "ExpressHouse$FileReader" ⟨"ExpressHouse$FileReader", "forget", "()V"⟩ ⟨"ExpressHouse$FileReader", "forget", "()V"⟩ ∈ xBIG := xin_9 (List.mem_of_getElem? (i := 81) rfl) rfl
theorem xw_338 : Cond.methodLink "ExpressHouse" 143 ⟨"ExpressHouse$FileReader", "forget", "()V"⟩ ∈ xBIG := xin_9 (List.mem_of_getElem? (i := 79) rfl) rfl
theorem xw_339 : Cond.fieldLink "ExpressHouse" 146 "ExpressHouse$Schema" "counts" "[I" ∈ xBIG := xin_1 (List.mem_of_getElem? (i := 169) rfl) rfl
theorem xw_340 : Cond.instanceMethod ⟨"ExpressHouse$Schema", "knows", "(I)Z"⟩ ∈ xBIG := xin_4 (List.mem_of_getElem? (i := 24) rfl) rfl
theorem xw_341 : Cond.selects "ExpressHouse$Schema" ⟨"ExpressHouse$Schema", "knows", "(I)Z"⟩ ⟨"ExpressHouse$Schema", "knows", "(I)Z"⟩ ∈ xBIG := xin_4 (List.mem_of_getElem? (i := 25) rfl) rfl
theorem xw_342 : Cond.methodLink "ExpressHouse" 192 ⟨"ExpressHouse$Schema", "knows", "(I)Z"⟩ ∈ xBIG := xin_4 (List.mem_of_getElem? (i := 23) rfl) rfl
theorem xw_343 : Cond.instanceMethod ⟨"ExpressHouse$Schema", "reason", "(I)I"⟩ ∈ xBIG := xin_4 (List.mem_of_getElem? (i := 28) rfl) rfl
theorem xw_344 : Cond.selects "ExpressHouse$Schema" ⟨"ExpressHouse$Schema", "reason", "(I)I"⟩ ⟨"ExpressHouse$Schema", "reason", "(I)I"⟩ ∈ xBIG := xin_4 (List.mem_of_getElem? (i := 29) rfl) rfl
theorem xw_345 : Cond.methodLink "ExpressHouse" 196 ⟨"ExpressHouse$Schema", "reason", "(I)I"⟩ ∈ xBIG := xin_4 (List.mem_of_getElem? (i := 27) rfl) rfl
theorem xw_346 : Cond.fieldLink "ExpressHouse" 156 "ExpressHouse$Population" "made" "I" ∈ xBIG := xin_2 (List.mem_of_getElem? (i := 105) rfl) rfl
theorem xw_347 : Cond.instanceMethod ⟨"ExpressHouse$Population", "add", "(I)I"⟩ ∈ xBIG := xin_9 (List.mem_of_getElem? (i := 91) rfl) rfl
theorem xw_348 : Cond.selects "ExpressHouse$Population" ⟨"ExpressHouse$Population", "add", "(I)I"⟩ ⟨"ExpressHouse$Population", "add", "(I)I"⟩ ∈ xBIG := xin_9 (List.mem_of_getElem? (i := 92) rfl) rfl
theorem xw_349 : Cond.methodLink "ExpressHouse" 203 ⟨"ExpressHouse$Population", "add", "(I)I"⟩ ∈ xBIG := xin_9 (List.mem_of_getElem? (i := 90) rfl) rfl
theorem xw_350 : Cond.instanceMethod ⟨"ExpressHouse$Population", "has", "(II)Z"⟩ ∈ xBIG := xin_4 (List.mem_of_getElem? (i := 80) rfl) rfl
theorem xw_351 : Cond.selects "ExpressHouse$Population" ⟨"ExpressHouse$Population", "has", "(II)Z"⟩ ⟨"ExpressHouse$Population", "has", "(II)Z"⟩ ∈ xBIG := xin_4 (List.mem_of_getElem? (i := 81) rfl) rfl
theorem xw_352 : Cond.methodLink "ExpressHouse" 215 ⟨"ExpressHouse$Population", "has", "(II)Z"⟩ ∈ xBIG := xin_4 (List.mem_of_getElem? (i := 79) rfl) rfl
theorem xw_353 : Cond.fieldLink "ExpressHouse" 185 "ExpressHouse$Schema" "attributes" "[[I" ∈ xBIG := xin_1 (List.mem_of_getElem? (i := 191) rfl) rfl
theorem xw_354 : Cond.instanceMethod ⟨"ExpressHouse", "readExpression", "()I"⟩ ∈ xBIG := xin_9 (List.mem_of_getElem? (i := 114) rfl) rfl
theorem xw_355 : Cond.selects "ExpressHouse" ⟨"ExpressHouse", "readExpression", "()I"⟩ ⟨"ExpressHouse", "readExpression", "()I"⟩ ∈ xBIG := xin_0 (List.mem_of_getElem? (i := 122) rfl) rfl
theorem xw_356 : Cond.methodLink "ExpressHouse" 219 ⟨"ExpressHouse", "readExpression", "()I"⟩ ∈ xBIG := xin_9 (List.mem_of_getElem? (i := 112) rfl) rfl
theorem xw_357 : Cond.instanceMethod ⟨"ExpressHouse$Population", "prepare", "()V"⟩ ∈ xBIG := xin_4 (List.mem_of_getElem? (i := 88) rfl) rfl
theorem xw_358 : Cond.selects "ExpressHouse$Population" ⟨"ExpressHouse$Population", "prepare", "()V"⟩ ⟨"ExpressHouse$Population", "prepare", "()V"⟩ ∈ xBIG := xin_4 (List.mem_of_getElem? (i := 89) rfl) rfl
theorem xw_359 : Cond.methodLink "ExpressHouse" 222 ⟨"ExpressHouse$Population", "prepare", "()V"⟩ ∈ xBIG := xin_4 (List.mem_of_getElem? (i := 87) rfl) rfl
theorem xw_360 : Cond.fieldLink "ExpressHouse" 225 "ExpressHouse$Population" "nothing" "LExpressHouse$Value;" ∈ xBIG := xin_2 (List.mem_of_getElem? (i := 101) rfl) rfl
theorem xw_361 : Cond.instanceMethod ⟨"ExpressHouse$Machine", "run", "(ILExpressHouse$Value;)LExpressHouse$Value;"⟩ ∈ xBIG := xin_4 (List.mem_of_getElem? (i := 139) rfl) rfl
theorem xw_362 : Cond.selects "ExpressHouse$Machine" ⟨"ExpressHouse$Machine", "run", "(ILExpressHouse$Value;)LExpressHouse$Value;"⟩ ⟨"ExpressHouse$Machine", "run", "(ILExpressHouse$Value;)LExpressHouse$Value;"⟩ ∈ xBIG := xin_4 (List.mem_of_getElem? (i := 140) rfl) rfl
theorem xw_363 : Cond.methodLink "ExpressHouse" 228 ⟨"ExpressHouse$Machine", "run", "(ILExpressHouse$Value;)LExpressHouse$Value;"⟩ ∈ xBIG := xin_4 (List.mem_of_getElem? (i := 138) rfl) rfl
theorem xw_364 : Cond.fieldLink "ExpressHouse" 232 "ExpressHouse$Machine" "spent" "Z" ∈ xBIG := xin_3 (List.mem_of_getElem? (i := 25) rfl) rfl
theorem xw_365 : Cond.instanceMethod ⟨"ExpressHouse$Population", "converted", "(LExpressHouse$Value;I)LExpressHouse$Value;"⟩ ∈ xBIG := xin_5 (List.mem_of_getElem? (i := 166) rfl) rfl
theorem xw_366 : Cond.selects "ExpressHouse$Population" ⟨"ExpressHouse$Population", "converted", "(LExpressHouse$Value;I)LExpressHouse$Value;"⟩ ⟨"ExpressHouse$Population", "converted", "(LExpressHouse$Value;I)LExpressHouse$Value;"⟩ ∈ xBIG := xin_5 (List.mem_of_getElem? (i := 167) rfl) rfl
theorem xw_367 : Cond.methodLink "ExpressHouse" 236 ⟨"ExpressHouse$Population", "converted", "(LExpressHouse$Value;I)LExpressHouse$Value;"⟩ ∈ xBIG := xin_9 (List.mem_of_getElem? (i := 120) rfl) rfl
theorem xw_368 : Cond.instanceMethod ⟨"ExpressHouse$Population", "fits", "(LExpressHouse$Value;I)Z"⟩ ∈ xBIG := xin_5 (List.mem_of_getElem? (i := 179) rfl) rfl
theorem xw_369 : Cond.selects "ExpressHouse$Population" ⟨"ExpressHouse$Population", "fits", "(LExpressHouse$Value;I)Z"⟩ ⟨"ExpressHouse$Population", "fits", "(LExpressHouse$Value;I)Z"⟩ ∈ xBIG := xin_5 (List.mem_of_getElem? (i := 180) rfl) rfl
theorem xw_370 : Cond.methodLink "ExpressHouse" 240 ⟨"ExpressHouse$Population", "fits", "(LExpressHouse$Value;I)Z"⟩ ∈ xBIG := xin_9 (List.mem_of_getElem? (i := 121) rfl) rfl
theorem xw_371 : Cond.instanceMethod ⟨"ExpressHouse$Population", "hold", "(IILExpressHouse$Value;)V"⟩ ∈ xBIG := xin_9 (List.mem_of_getElem? (i := 99) rfl) rfl
theorem xw_372 : Cond.selects "ExpressHouse$Population" ⟨"ExpressHouse$Population", "hold", "(IILExpressHouse$Value;)V"⟩ ⟨"ExpressHouse$Population", "hold", "(IILExpressHouse$Value;)V"⟩ ∈ xBIG := xin_9 (List.mem_of_getElem? (i := 100) rfl) rfl
theorem xw_373 : Cond.methodLink "ExpressHouse" 244 ⟨"ExpressHouse$Population", "hold", "(IILExpressHouse$Value;)V"⟩ ∈ xBIG := xin_9 (List.mem_of_getElem? (i := 122) rfl) rfl
theorem xw_374 : Cond.fieldLink "ExpressHouse" 248 "ExpressHouse$Value" "kind" "I" ∈ xBIG := xin_2 (List.mem_of_getElem? (i := 39) rfl) rfl
theorem xw_375 : Cond.instanceMethod ⟨"ExpressHouse$Population", "exists", "(I)Z"⟩ ∈ xBIG := xin_4 (List.mem_of_getElem? (i := 16) rfl) rfl
theorem xw_376 : Cond.selects "ExpressHouse$Population" ⟨"ExpressHouse$Population", "exists", "(I)Z"⟩ ⟨"ExpressHouse$Population", "exists", "(I)Z"⟩ ∈ xBIG := xin_4 (List.mem_of_getElem? (i := 17) rfl) rfl
theorem xw_377 : Cond.methodLink "ExpressHouse" 206 ⟨"ExpressHouse$Population", "exists", "(I)Z"⟩ ∈ xBIG := xin_6 (List.mem_of_getElem? (i := 125) rfl) rfl
theorem xw_378 : Cond.instanceMethod ⟨"ExpressHouse$Population", "remove", "(I)V"⟩ ∈ xBIG := xin_9 (List.mem_of_getElem? (i := 131) rfl) rfl
theorem xw_379 : Cond.selects "ExpressHouse$Population" ⟨"ExpressHouse$Population", "remove", "(I)V"⟩ ⟨"ExpressHouse$Population", "remove", "(I)V"⟩ ∈ xBIG := xin_9 (List.mem_of_getElem? (i := 132) rfl) rfl
theorem xw_380 : Cond.methodLink "ExpressHouse" 209 ⟨"ExpressHouse$Population", "remove", "(I)V"⟩ ∈ xBIG := xin_9 (List.mem_of_getElem? (i := 130) rfl) rfl
theorem xw_381 : Cond.instanceMethod ⟨"ExpressHouse$Schema", "codeOfAccess", "(I)I"⟩ ∈ xBIG := xin_4 (List.mem_of_getElem? (i := 131) rfl) rfl
theorem xw_382 : Cond.selects "ExpressHouse$Schema" ⟨"ExpressHouse$Schema", "codeOfAccess", "(I)I"⟩ ⟨"ExpressHouse$Schema", "codeOfAccess", "(I)I"⟩ ∈ xBIG := xin_4 (List.mem_of_getElem? (i := 132) rfl) rfl
theorem xw_383 : Cond.methodLink "ExpressHouse" 255 ⟨"ExpressHouse$Schema", "codeOfAccess", "(I)I"⟩ ∈ xBIG := xin_4 (List.mem_of_getElem? (i := 130) rfl) rfl
theorem xw_384 : Cond.instanceMethod ⟨"ExpressHouse", "runToHand", "(ILExpressHouse$Value;)I"⟩ ∈ xBIG := xin_4 (List.mem_of_getElem? (i := 136) rfl) rfl
theorem xw_385 : Cond.selects "ExpressHouse" ⟨"ExpressHouse", "runToHand", "(ILExpressHouse$Value;)I"⟩ ⟨"ExpressHouse", "runToHand", "(ILExpressHouse$Value;)I"⟩ ∈ xBIG := xin_0 (List.mem_of_getElem? (i := 9) rfl) rfl
theorem xw_386 : Cond.methodLink "ExpressHouse" 258 ⟨"ExpressHouse", "runToHand", "(ILExpressHouse$Value;)I"⟩ ∈ xBIG := xin_4 (List.mem_of_getElem? (i := 134) rfl) rfl
theorem xw_387 : Cond.instanceMethod ⟨"ExpressHouse$Schema", "ruleCount", "()I"⟩ ∈ xBIG := xin_4 (List.mem_of_getElem? (i := 8) rfl) rfl
theorem xw_388 : Cond.selects "ExpressHouse$Schema" ⟨"ExpressHouse$Schema", "ruleCount", "()I"⟩ ⟨"ExpressHouse$Schema", "ruleCount", "()I"⟩ ∈ xBIG := xin_4 (List.mem_of_getElem? (i := 9) rfl) rfl
theorem xw_389 : Cond.methodLink "ExpressHouse" 150 ⟨"ExpressHouse$Schema", "ruleCount", "()I"⟩ ∈ xBIG := xin_4 (List.mem_of_getElem? (i := 7) rfl) rfl
theorem xw_390 : Cond.instanceMethod ⟨"ExpressHouse$Schema", "ruleOwner", "(I)I"⟩ ∈ xBIG := xin_6 (List.mem_of_getElem? (i := 26) rfl) rfl
theorem xw_391 : Cond.selects "ExpressHouse$Schema" ⟨"ExpressHouse$Schema", "ruleOwner", "(I)I"⟩ ⟨"ExpressHouse$Schema", "ruleOwner", "(I)I"⟩ ∈ xBIG := xin_6 (List.mem_of_getElem? (i := 27) rfl) rfl
theorem xw_392 : Cond.methodLink "ExpressHouse" 335 ⟨"ExpressHouse$Schema", "ruleOwner", "(I)I"⟩ ∈ xBIG := xin_6 (List.mem_of_getElem? (i := 25) rfl) rfl
theorem xw_393 : Cond.instanceMethod ⟨"ExpressHouse$Schema", "ruleSort", "(I)I"⟩ ∈ xBIG := xin_6 (List.mem_of_getElem? (i := 30) rfl) rfl
theorem xw_394 : Cond.selects "ExpressHouse$Schema" ⟨"ExpressHouse$Schema", "ruleSort", "(I)I"⟩ ⟨"ExpressHouse$Schema", "ruleSort", "(I)I"⟩ ∈ xBIG := xin_6 (List.mem_of_getElem? (i := 31) rfl) rfl
theorem xw_395 : Cond.methodLink "ExpressHouse" 332 ⟨"ExpressHouse$Schema", "ruleSort", "(I)I"⟩ ∈ xBIG := xin_6 (List.mem_of_getElem? (i := 29) rfl) rfl
theorem xw_396 : Cond.instanceMethod ⟨"ExpressHouse$Judge", "judgeBounds", "(I)I"⟩ ∈ xBIG := xin_6 (List.mem_of_getElem? (i := 34) rfl) rfl
theorem xw_397 : Cond.selects "ExpressHouse$Judge" ⟨"ExpressHouse$Judge", "judgeBounds", "(I)I"⟩ ⟨"ExpressHouse$Judge", "judgeBounds", "(I)I"⟩ ∈ xBIG := xin_6 (List.mem_of_getElem? (i := 35) rfl) rfl
theorem xw_398 : Cond.methodLink "ExpressHouse" 338 ⟨"ExpressHouse$Judge", "judgeBounds", "(I)I"⟩ ∈ xBIG := xin_6 (List.mem_of_getElem? (i := 33) rfl) rfl
theorem xw_399 : Cond.instanceMethod ⟨"ExpressHouse$Judge", "judgeUnique", "(I)I"⟩ ∈ xBIG := xin_6 (List.mem_of_getElem? (i := 71) rfl) rfl
theorem xw_400 : Cond.selects "ExpressHouse$Judge" ⟨"ExpressHouse$Judge", "judgeUnique", "(I)I"⟩ ⟨"ExpressHouse$Judge", "judgeUnique", "(I)I"⟩ ∈ xBIG := xin_6 (List.mem_of_getElem? (i := 72) rfl) rfl
theorem xw_401 : Cond.methodLink "ExpressHouse" 341 ⟨"ExpressHouse$Judge", "judgeUnique", "(I)I"⟩ ∈ xBIG := xin_6 (List.mem_of_getElem? (i := 70) rfl) rfl
theorem xw_402 : Cond.instanceMethod ⟨"ExpressHouse$Judge", "judgeEntity", "(I)I"⟩ ∈ xBIG := xin_6 (List.mem_of_getElem? (i := 84) rfl) rfl
theorem xw_403 : Cond.selects "ExpressHouse$Judge" ⟨"ExpressHouse$Judge", "judgeEntity", "(I)I"⟩ ⟨"ExpressHouse$Judge", "judgeEntity", "(I)I"⟩ ∈ xBIG := xin_6 (List.mem_of_getElem? (i := 85) rfl) rfl
theorem xw_404 : Cond.methodLink "ExpressHouse" 344 ⟨"ExpressHouse$Judge", "judgeEntity", "(I)I"⟩ ∈ xBIG := xin_6 (List.mem_of_getElem? (i := 83) rfl) rfl
theorem xw_405 : Cond.instanceMethod ⟨"ExpressHouse$Judge", "judgeType", "(I)I"⟩ ∈ xBIG := xin_6 (List.mem_of_getElem? (i := 100) rfl) rfl
theorem xw_406 : Cond.selects "ExpressHouse$Judge" ⟨"ExpressHouse$Judge", "judgeType", "(I)I"⟩ ⟨"ExpressHouse$Judge", "judgeType", "(I)I"⟩ ∈ xBIG := xin_6 (List.mem_of_getElem? (i := 101) rfl) rfl
theorem xw_407 : Cond.methodLink "ExpressHouse" 347 ⟨"ExpressHouse$Judge", "judgeType", "(I)I"⟩ ∈ xBIG := xin_6 (List.mem_of_getElem? (i := 99) rfl) rfl
theorem xw_408 : Cond.instanceMethod ⟨"ExpressHouse$Judge", "judgeText", "(I)I"⟩ ∈ xBIG := xin_6 (List.mem_of_getElem? (i := 110) rfl) rfl
theorem xw_409 : Cond.selects "ExpressHouse$Judge" ⟨"ExpressHouse$Judge", "judgeText", "(I)I"⟩ ⟨"ExpressHouse$Judge", "judgeText", "(I)I"⟩ ∈ xBIG := xin_6 (List.mem_of_getElem? (i := 111) rfl) rfl
theorem xw_410 : Cond.methodLink "ExpressHouse" 350 ⟨"ExpressHouse$Judge", "judgeText", "(I)I"⟩ ∈ xBIG := xin_6 (List.mem_of_getElem? (i := 109) rfl) rfl
theorem xw_411 : Cond.instanceMethod ⟨"ExpressHouse$FileWriter", "start", "()V"⟩ ∈ xBIG := xin_6 (List.mem_of_getElem? (i := 122) rfl) rfl
theorem xw_412 : Cond.selects "ExpressHouse$FileWriter" ⟨"ExpressHouse$FileWriter", "start", "()V"⟩ ⟨"ExpressHouse$FileWriter", "start", "()V"⟩ ∈ xBIG := xin_6 (List.mem_of_getElem? (i := 123) rfl) rfl
theorem xw_413 : Cond.methodLink "ExpressHouse" 362 ⟨"ExpressHouse$FileWriter", "start", "()V"⟩ ∈ xBIG := xin_6 (List.mem_of_getElem? (i := 121) rfl) rfl
theorem xw_414 : Cond.instanceMethod ⟨"ExpressHouse$Population", "rowOf", "(I)I"⟩ ∈ xBIG := xin_4 (List.mem_of_getElem? (i := 72) rfl) rfl
theorem xw_415 : Cond.selects "ExpressHouse$Population" ⟨"ExpressHouse$Population", "rowOf", "(I)I"⟩ ⟨"ExpressHouse$Population", "rowOf", "(I)I"⟩ ∈ xBIG := xin_4 (List.mem_of_getElem? (i := 73) rfl) rfl
theorem xw_416 : Cond.methodLink "ExpressHouse" 212 ⟨"ExpressHouse$Population", "rowOf", "(I)I"⟩ ∈ xBIG := xin_4 (List.mem_of_getElem? (i := 71) rfl) rfl
theorem xw_417 : Cond.instanceMethod ⟨"ExpressHouse$FileWriter", "instance", "(II)V"⟩ ∈ xBIG := xin_6 (List.mem_of_getElem? (i := 127) rfl) rfl
theorem xw_418 : Cond.selects "ExpressHouse$FileWriter" ⟨"ExpressHouse$FileWriter", "instance", "(II)V"⟩ ⟨"ExpressHouse$FileWriter", "instance", "(II)V"⟩ ∈ xBIG := xin_6 (List.mem_of_getElem? (i := 128) rfl) rfl
theorem xw_419 : Cond.methodLink "ExpressHouse" 363 ⟨"ExpressHouse$FileWriter", "instance", "(II)V"⟩ ∈ xBIG := xin_6 (List.mem_of_getElem? (i := 126) rfl) rfl
theorem xw_420 : Cond.instanceMethod ⟨"ExpressHouse$FileWriter", "finish", "()I"⟩ ∈ xBIG := xin_6 (List.mem_of_getElem? (i := 184) rfl) rfl
theorem xw_421 : Cond.selects "ExpressHouse$FileWriter" ⟨"ExpressHouse$FileWriter", "finish", "()I"⟩ ⟨"ExpressHouse$FileWriter", "finish", "()I"⟩ ∈ xBIG := xin_6 (List.mem_of_getElem? (i := 185) rfl) rfl
theorem xw_422 : Cond.methodLink "ExpressHouse" 367 ⟨"ExpressHouse$FileWriter", "finish", "()I"⟩ ∈ xBIG := xin_6 (List.mem_of_getElem? (i := 183) rfl) rfl
theorem xw_423 : Cond.fieldLink "ExpressHouse" 153 "ExpressHouse$Schema" "nodes" "I" ∈ xBIG := xin_1 (List.mem_of_getElem? (i := 215) rfl) rfl
theorem xw_424 : Cond.instanceMethod ⟨"ExpressHouse$Population", "existing", "()I"⟩ ∈ xBIG := xin_4 (List.mem_of_getElem? (i := 12) rfl) rfl
theorem xw_425 : Cond.selects "ExpressHouse$Population" ⟨"ExpressHouse$Population", "existing", "()I"⟩ ⟨"ExpressHouse$Population", "existing", "()I"⟩ ∈ xBIG := xin_4 (List.mem_of_getElem? (i := 13) rfl) rfl
theorem xw_426 : Cond.methodLink "ExpressHouse" 159 ⟨"ExpressHouse$Population", "existing", "()I"⟩ ∈ xBIG := xin_4 (List.mem_of_getElem? (i := 11) rfl) rfl
theorem xw_427 : Cond.fieldLink "ExpressHouse" 162 "ExpressHouse$FileWriter" "size" "I" ∈ xBIG := xin_3 (List.mem_of_getElem? (i := 178) rfl) rfl
theorem xw_428 : Cond.fieldLink "ExpressHouse" 165 "ExpressHouse$Machine" "made" "I" ∈ xBIG := xin_3 (List.mem_of_getElem? (i := 28) rfl) rfl
theorem xw_429 : Cond.fieldLink "ExpressHouse" 166 "ExpressHouse$Machine" "madeInAll" "I" ∈ xBIG := xin_3 (List.mem_of_getElem? (i := 30) rfl) rfl
theorem xw_430 : Cond.instanceMethod ⟨"ExpressHouse$Population", "discard", "()Z"⟩ ∈ xBIG := xin_9 (List.mem_of_getElem? (i := 153) rfl) rfl
theorem xw_431 : Cond.selects "ExpressHouse$Population" ⟨"ExpressHouse$Population", "discard", "()Z"⟩ ⟨"ExpressHouse$Population", "discard", "()Z"⟩ ∈ xBIG := xin_9 (List.mem_of_getElem? (i := 154) rfl) rfl
theorem xw_432 : Cond.methodLink "ExpressHouse" 394 ⟨"ExpressHouse$Population", "discard", "()Z"⟩ ∈ xBIG := xin_9 (List.mem_of_getElem? (i := 152) rfl) rfl
theorem xw_433 : Cond.instanceMethod ⟨"ExpressHouse$Population", "restore", "()Z"⟩ ∈ xBIG := xin_6 (List.mem_of_getElem? (i := 205) rfl) rfl
theorem xw_434 : Cond.selects "ExpressHouse$Population" ⟨"ExpressHouse$Population", "restore", "()Z"⟩ ⟨"ExpressHouse$Population", "restore", "()Z"⟩ ∈ xBIG := xin_6 (List.mem_of_getElem? (i := 206) rfl) rfl
theorem xw_435 : Cond.methodLink "ExpressHouse" 397 ⟨"ExpressHouse$Population", "restore", "()Z"⟩ ∈ xBIG := xin_6 (List.mem_of_getElem? (i := 204) rfl) rfl
theorem xw_436 : Cond.fieldLink "ExpressHouse" 272 "ExpressHouse$Value" "lane" "I" ∈ xBIG := xin_2 (List.mem_of_getElem? (i := 62) rfl) rfl
theorem xw_437 : Cond.fieldLink "ExpressHouse" 290 "ExpressHouse$Value" "holes" "I" ∈ xBIG := xin_2 (List.mem_of_getElem? (i := 66) rfl) rfl
theorem xw_438 : Cond.fieldLink "ExpressHouse" 268 "ExpressHouse$Value" "cells" "[J" ∈ xBIG := xin_2 (List.mem_of_getElem? (i := 73) rfl) rfl
theorem xw_439 : Cond.instanceMethod ⟨"ExpressHouse$Value", "<init>", "(IIII[J)V"⟩ ∈ xBIG := xin_4 (List.mem_of_getElem? (i := 192) rfl) rfl
theorem xw_440 : Cond.instanceMethod ⟨"ExpressHouse$Schema", "combinationsWith", "(I)I"⟩ ∈ xBIG := xin_4 (List.mem_of_getElem? (i := 56) rfl) rfl
theorem xw_441 : Cond.selects "ExpressHouse$Schema" ⟨"ExpressHouse$Schema", "combinationsWith", "(I)I"⟩ ⟨"ExpressHouse$Schema", "combinationsWith", "(I)I"⟩ ∈ xBIG := xin_4 (List.mem_of_getElem? (i := 57) rfl) rfl
theorem xw_442 : Cond.methodLink "ExpressHouse" 200 ⟨"ExpressHouse$Schema", "combinationsWith", "(I)I"⟩ ∈ xBIG := xin_4 (List.mem_of_getElem? (i := 55) rfl) rfl
theorem xw_443 : Cond.instanceMethod ⟨"ExpressHouse$FileReader", "start", "([BI)V"⟩ ∈ xBIG := xin_9 (List.mem_of_getElem? (i := 173) rfl) rfl
theorem xw_444 : Cond.selects "ExpressHouse$FileReader" ⟨"ExpressHouse$FileReader", "start", "([BI)V"⟩ ⟨"ExpressHouse$FileReader", "start", "([BI)V"⟩ ∈ xBIG := xin_9 (List.mem_of_getElem? (i := 174) rfl) rfl
theorem xw_445 : Cond.methodLink "ExpressHouse" 373 ⟨"ExpressHouse$FileReader", "start", "([BI)V"⟩ ∈ xBIG := xin_9 (List.mem_of_getElem? (i := 172) rfl) rfl
theorem xw_446 : Cond.fieldLink "ExpressHouse" 375 "ExpressHouse$FileReader" "fault" "I" ∈ xBIG := xin_3 (List.mem_of_getElem? (i := 113) rfl) rfl
theorem xw_447 : Cond.instanceMethod ⟨"ExpressHouse$FileReader", "startReading", "(Z)V"⟩ ∈ xBIG := xin_9 (List.mem_of_getElem? (i := 177) rfl) rfl
theorem xw_448 : Cond.selects "ExpressHouse$FileReader" ⟨"ExpressHouse$FileReader", "startReading", "(Z)V"⟩ ⟨"ExpressHouse$FileReader", "startReading", "(Z)V"⟩ ∈ xBIG := xin_9 (List.mem_of_getElem? (i := 178) rfl) rfl
theorem xw_449 : Cond.methodLink "ExpressHouse" 376 ⟨"ExpressHouse$FileReader", "startReading", "(Z)V"⟩ ∈ xBIG := xin_9 (List.mem_of_getElem? (i := 176) rfl) rfl
theorem xw_450 : Cond.instanceMethod ⟨"ExpressHouse$FileReader", "goesOn", "()Z"⟩ ∈ xBIG := xin_9 (List.mem_of_getElem? (i := 194) rfl) rfl
theorem xw_451 : Cond.selects "ExpressHouse$FileReader" ⟨"ExpressHouse$FileReader", "goesOn", "()Z"⟩ ⟨"ExpressHouse$FileReader", "goesOn", "()Z"⟩ ∈ xBIG := xin_9 (List.mem_of_getElem? (i := 195) rfl) rfl
theorem xw_452 : Cond.methodLink "ExpressHouse" 380 ⟨"ExpressHouse$FileReader", "goesOn", "()Z"⟩ ∈ xBIG := xin_9 (List.mem_of_getElem? (i := 193) rfl) rfl
theorem xw_453 : Cond.instanceMethod ⟨"ExpressHouse$FileReader", "entryPart", "()V"⟩ ∈ xBIG := xin_9 (List.mem_of_getElem? (i := 198) rfl) rfl
theorem xw_454 : Cond.selects "ExpressHouse$FileReader" ⟨"ExpressHouse$FileReader", "entryPart", "()V"⟩ ⟨"ExpressHouse$FileReader", "entryPart", "()V"⟩ ∈ xBIG := xin_9 (List.mem_of_getElem? (i := 199) rfl) rfl
theorem xw_455 : Cond.methodLink "ExpressHouse" 384 ⟨"ExpressHouse$FileReader", "entryPart", "()V"⟩ ∈ xBIG := xin_9 (List.mem_of_getElem? (i := 197) rfl) rfl
theorem xw_456 : Cond.instanceMethod ⟨"ExpressHouse$FileReader", "finish", "()I"⟩ ∈ xBIG := xin_10 (List.mem_of_getElem? (i := 63) rfl) rfl
theorem xw_457 : Cond.selects "ExpressHouse$FileReader" ⟨"ExpressHouse$FileReader", "finish", "()I"⟩ ⟨"ExpressHouse$FileReader", "finish", "()I"⟩ ∈ xBIG := xin_10 (List.mem_of_getElem? (i := 64) rfl) rfl
theorem xw_458 : Cond.methodLink "ExpressHouse" 387 ⟨"ExpressHouse$FileReader", "finish", "()I"⟩ ∈ xBIG := xin_10 (List.mem_of_getElem? (i := 62) rfl) rfl
theorem xw_459 : Cond.methodLink "ExpressHouse$Tokens" 31 ⟨"java/lang/String", "length", "()I"⟩ ∈ xBIG := xin_1 (List.mem_of_getElem? (i := 41) rfl) rfl
theorem xw_460 : Cond.methodLink "ExpressHouse$Tokens" 37 ⟨"java/lang/String", "charAt", "(I)C"⟩ ∈ xBIG := xin_1 (List.mem_of_getElem? (i := 51) rfl) rfl
theorem xw_461 : Cond.constantLong "ExpressHouse$Tokens" 41 (Int64.ofNat 38) ∈ xBIG := xin_1 (List.mem_of_getElem? (i := 89) rfl) rfl
theorem xw_462 : Cond.methodLink "ExpressHouse$Tokens" 43 ⟨"ExpressHouse$Tokens", "digitOf", "(I)I"⟩ ∈ xBIG := xin_1 (List.mem_of_getElem? (i := 90) rfl) rfl
theorem xw_463 : Cond.static ⟨"ExpressHouse$Tokens", "digitOf", "(I)I"⟩ ∈ xBIG := xin_1 (List.mem_of_getElem? (i := 91) rfl) rfl
theorem xw_464 : Cond.methodLink "ExpressHouse$Operators" 1 ⟨"java/lang/Object", "<init>", "()V"⟩ ∈ xBIG := xin_2 (List.mem_of_getElem? (i := 236) rfl) rfl
theorem xw_465 : Cond.fieldLink "ExpressHouse$Operators" 9 "ExpressHouse$Operators" "room" "[J" ∈ xBIG := xin_2 (List.mem_of_getElem? (i := 239) rfl) rfl
theorem xw_466 : Cond.fieldLink "ExpressHouse$Operators" 15 "ExpressHouse$Operators" "people" "LExpressHouse$Population;" ∈ xBIG := xin_2 (List.mem_of_getElem? (i := 237) rfl) rfl
theorem xw_467 : Cond.fieldLink "ExpressHouse$Operators" 19 "ExpressHouse$Population" "nothing" "LExpressHouse$Value;" ∈ xBIG := xin_2 (List.mem_of_getElem? (i := 98) rfl) rfl
theorem xw_468 : Cond.fieldLink "ExpressHouse$Operators" 25 "ExpressHouse$Operators" "nothing" "LExpressHouse$Value;" ∈ xBIG := xin_2 (List.mem_of_getElem? (i := 238) rfl) rfl
theorem xw_469 : Cond.fieldLink "ExpressHouse$Tokens" 51 "ExpressHouse$Tokens" "total" "I" ∈ xBIG := xin_1 (List.mem_of_getElem? (i := 97) rfl) rfl
theorem xw_470 : Cond.fieldLink "ExpressHouse$Tokens" 55 "ExpressHouse$Tokens" "fault" "I" ∈ xBIG := xin_1 (List.mem_of_getElem? (i := 109) rfl) rfl
theorem xw_471 : Cond.fieldLink "ExpressHouse$Tokens" 58 "ExpressHouse$Tokens" "softFault" "I" ∈ xBIG := xin_1 (List.mem_of_getElem? (i := 111) rfl) rfl
theorem xw_472 : Cond.methodLink "ExpressHouse$Tokens" 61 ⟨"java/lang/Math", "min", "(II)I"⟩ ∈ xBIG := xin_7 (List.mem_of_getElem? (i := 66) rfl) rfl
theorem xw_473 : Cond.static ⟨"java/lang/Math", "min", "(II)I"⟩ ∈ xBIG := xin_4 (List.mem_of_getElem? (i := 160) rfl) rfl
theorem xw_474 : Cond.code ⟨"java/lang/Math", "min", "(II)I"⟩ prog_41_method_69_code 2 (some .int) ∈ xBIG := xin_4 (List.mem_of_getElem? (i := 161) rfl) rfl
theorem xw_475 : Cond.initialized "java/lang/Math" ∈ xBIG := xin_1 (List.mem_of_getElem? (i := 17) rfl) rfl
theorem xw_476 : Cond.methodLink "ExpressHouse$Tokens" 67 ⟨"ExpressHouse$Tokens", "isBlank", "(I)Z"⟩ ∈ xBIG := xin_7 (List.mem_of_getElem? (i := 67) rfl) rfl
theorem xw_477 : Cond.static ⟨"ExpressHouse$Tokens", "isBlank", "(I)Z"⟩ ∈ xBIG := xin_7 (List.mem_of_getElem? (i := 68) rfl) rfl
theorem xw_478 : Cond.instanceMethod ⟨"ExpressHouse$Tokens", "scan", "([BII)I"⟩ ∈ xBIG := xin_7 (List.mem_of_getElem? (i := 72) rfl) rfl
theorem xw_479 : Cond.selects "ExpressHouse$Tokens" ⟨"ExpressHouse$Tokens", "scan", "([BII)I"⟩ ⟨"ExpressHouse$Tokens", "scan", "([BII)I"⟩ ∈ xBIG := xin_0 (List.mem_of_getElem? (i := 56) rfl) rfl
theorem xw_480 : Cond.methodLink "ExpressHouse$Tokens" 71 ⟨"ExpressHouse$Tokens", "scan", "([BII)I"⟩ ∈ xBIG := xin_7 (List.mem_of_getElem? (i := 70) rfl) rfl
theorem xw_481 : Cond.instanceMethod ⟨"ExpressHouse$Tokens", "add", "(IIJ)V"⟩ ∈ xBIG := xin_7 (List.mem_of_getElem? (i := 87) rfl) rfl
theorem xw_482 : Cond.selects "ExpressHouse$Tokens" ⟨"ExpressHouse$Tokens", "add", "(IIJ)V"⟩ ⟨"ExpressHouse$Tokens", "add", "(IIJ)V"⟩ ∈ xBIG := xin_0 (List.mem_of_getElem? (i := 58) rfl) rfl
theorem xw_483 : Cond.methodLink "ExpressHouse$Tokens" 75 ⟨"ExpressHouse$Tokens", "add", "(IIJ)V"⟩ ∈ xBIG := xin_7 (List.mem_of_getElem? (i := 85) rfl) rfl
theorem xw_484 : Cond.instanceMethod ⟨"ExpressHouse$Tokens", "rewind", "()V"⟩ ∈ xBIG := xin_7 (List.mem_of_getElem? (i := 108) rfl) rfl
theorem xw_485 : Cond.selects "ExpressHouse$Tokens" ⟨"ExpressHouse$Tokens", "rewind", "()V"⟩ ⟨"ExpressHouse$Tokens", "rewind", "()V"⟩ ∈ xBIG := xin_7 (List.mem_of_getElem? (i := 109) rfl) rfl
theorem xw_486 : Cond.methodLink "ExpressHouse$Tokens" 79 ⟨"ExpressHouse$Tokens", "rewind", "()V"⟩ ∈ xBIG := xin_7 (List.mem_of_getElem? (i := 107) rfl) rfl
theorem xw_487 : Cond.instanceMethod ⟨"ExpressHouse$Schema", "clear", "()V"⟩ ∈ xBIG := xin_7 (List.mem_of_getElem? (i := 120) rfl) rfl
theorem xw_488 : Cond.selects "ExpressHouse$Schema" ⟨"ExpressHouse$Schema", "clear", "()V"⟩ ⟨"ExpressHouse$Schema", "clear", "()V"⟩ ∈ xBIG := xin_7 (List.mem_of_getElem? (i := 121) rfl) rfl
theorem xw_489 : Cond.methodLink "ExpressHouse$SchemaReader" 30 ⟨"ExpressHouse$Schema", "clear", "()V"⟩ ∈ xBIG := xin_7 (List.mem_of_getElem? (i := 119) rfl) rfl
theorem xw_490 : Cond.fieldLink "ExpressHouse$SchemaReader" 33 "ExpressHouse$SchemaReader" "pass" "I" ∈ xBIG := xin_2 (List.mem_of_getElem? (i := 196) rfl) rfl
theorem xw_491 : Cond.methodLink "ExpressHouse$SchemaReader" 37 ⟨"ExpressHouse$Tokens", "rewind", "()V"⟩ ∈ xBIG := xin_7 (List.mem_of_getElem? (i := 133) rfl) rfl
theorem xw_492 : Cond.instanceMethod ⟨"ExpressHouse$Expressions", "startPass", "(LExpressHouse$Schema;Z)V"⟩ ∈ xBIG := xin_7 (List.mem_of_getElem? (i := 135) rfl) rfl
theorem xw_493 : Cond.selects "ExpressHouse$Expressions" ⟨"ExpressHouse$Expressions", "startPass", "(LExpressHouse$Schema;Z)V"⟩ ⟨"ExpressHouse$Expressions", "startPass", "(LExpressHouse$Schema;Z)V"⟩ ∈ xBIG := xin_7 (List.mem_of_getElem? (i := 136) rfl) rfl
theorem xw_494 : Cond.methodLink "ExpressHouse$SchemaReader" 42 ⟨"ExpressHouse$Expressions", "startPass", "(LExpressHouse$Schema;Z)V"⟩ ∈ xBIG := xin_7 (List.mem_of_getElem? (i := 134) rfl) rfl
theorem xw_495 : Cond.initialized "java/util/Arrays" ∈ xBIG := xin_1 (List.mem_of_getElem? (i := 19) rfl) rfl
theorem xw_496 : Cond.methodLink "ExpressHouse$SchemaReader" 48 ⟨"java/util/Arrays", "fill", "([II)V"⟩ ∈ xBIG := xin_7 (List.mem_of_getElem? (i := 142) rfl) rfl
theorem xw_497 : Cond.static ⟨"java/util/Arrays", "fill", "([II)V"⟩ ∈ xBIG := xin_4 (List.mem_of_getElem? (i := 64) rfl) rfl
theorem xw_498 : Cond.fieldLink "ExpressHouse$SchemaReader" 54 "ExpressHouse$SchemaReader" "kindsMet" "I" ∈ xBIG := xin_2 (List.mem_of_getElem? (i := 198) rfl) rfl
theorem xw_499 : Cond.fieldLink "ExpressHouse$SchemaReader" 57 "ExpressHouse$SchemaReader" "statementsMet" "I" ∈ xBIG := xin_2 (List.mem_of_getElem? (i := 199) rfl) rfl
theorem xw_500 : Cond.instanceMethod ⟨"ExpressHouse$Tokens", "expect", "(I)V"⟩ ∈ xBIG := xin_7 (List.mem_of_getElem? (i := 144) rfl) rfl
theorem xw_501 : Cond.selects "ExpressHouse$Tokens" ⟨"ExpressHouse$Tokens", "expect", "(I)V"⟩ ⟨"ExpressHouse$Tokens", "expect", "(I)V"⟩ ∈ xBIG := xin_7 (List.mem_of_getElem? (i := 145) rfl) rfl
theorem xw_502 : Cond.methodLink "ExpressHouse$SchemaReader" 60 ⟨"ExpressHouse$Tokens", "expect", "(I)V"⟩ ∈ xBIG := xin_7 (List.mem_of_getElem? (i := 143) rfl) rfl
theorem xw_503 : Cond.constant "ExpressHouse$SchemaReader" 64 (Int32.ofNat 1000000) ∈ xBIG := xin_7 (List.mem_of_getElem? (i := 147) rfl) rfl
theorem xw_504 : Cond.fieldLink "ExpressHouse$SchemaReader" 65 "ExpressHouse$Tokens" "current" "I" ∈ xBIG := xin_1 (List.mem_of_getElem? (i := 99) rfl) rfl
theorem xw_505 : Cond.instanceMethod ⟨"ExpressHouse$SchemaReader", "type", "()V"⟩ ∈ xBIG := xin_7 (List.mem_of_getElem? (i := 150) rfl) rfl
theorem xw_506 : Cond.selects "ExpressHouse$SchemaReader" ⟨"ExpressHouse$SchemaReader", "type", "()V"⟩ ⟨"ExpressHouse$SchemaReader", "type", "()V"⟩ ∈ xBIG := xin_0 (List.mem_of_getElem? (i := 60) rfl) rfl
theorem xw_507 : Cond.methodLink "ExpressHouse$SchemaReader" 68 ⟨"ExpressHouse$SchemaReader", "type", "()V"⟩ ∈ xBIG := xin_7 (List.mem_of_getElem? (i := 148) rfl) rfl
theorem xw_508 : Cond.instanceMethod ⟨"ExpressHouse$SchemaReader", "entityPart", "()V"⟩ ∈ xBIG := xin_8 (List.mem_of_getElem? (i := 152) rfl) rfl
theorem xw_509 : Cond.selects "ExpressHouse$SchemaReader" ⟨"ExpressHouse$SchemaReader", "entityPart", "()V"⟩ ⟨"ExpressHouse$SchemaReader", "entityPart", "()V"⟩ ∈ xBIG := xin_0 (List.mem_of_getElem? (i := 89) rfl) rfl
theorem xw_510 : Cond.methodLink "ExpressHouse$SchemaReader" 71 ⟨"ExpressHouse$SchemaReader", "entityPart", "()V"⟩ ∈ xBIG := xin_8 (List.mem_of_getElem? (i := 150) rfl) rfl
theorem xw_511 : Cond.instanceMethod ⟨"ExpressHouse$SchemaReader", "function", "()V"⟩ ∈ xBIG := xin_8 (List.mem_of_getElem? (i := 221) rfl) rfl
theorem xw_512 : Cond.selects "ExpressHouse$SchemaReader" ⟨"ExpressHouse$SchemaReader", "function", "()V"⟩ ⟨"ExpressHouse$SchemaReader", "function", "()V"⟩ ∈ xBIG := xin_0 (List.mem_of_getElem? (i := 105) rfl) rfl
theorem xw_513 : Cond.methodLink "ExpressHouse$SchemaReader" 74 ⟨"ExpressHouse$SchemaReader", "function", "()V"⟩ ∈ xBIG := xin_8 (List.mem_of_getElem? (i := 219) rfl) rfl
theorem xw_514 : Cond.instanceMethod ⟨"ExpressHouse$SchemaReader", "textRule", "()V"⟩ ∈ xBIG := xin_9 (List.mem_of_getElem? (i := 37) rfl) rfl
theorem xw_515 : Cond.selects "ExpressHouse$SchemaReader" ⟨"ExpressHouse$SchemaReader", "textRule", "()V"⟩ ⟨"ExpressHouse$SchemaReader", "textRule", "()V"⟩ ∈ xBIG := xin_0 (List.mem_of_getElem? (i := 116) rfl) rfl
theorem xw_516 : Cond.methodLink "ExpressHouse$SchemaReader" 77 ⟨"ExpressHouse$SchemaReader", "textRule", "()V"⟩ ∈ xBIG := xin_9 (List.mem_of_getElem? (i := 35) rfl) rfl
theorem xw_517 : Cond.instanceMethod ⟨"ExpressHouse$SchemaReader", "finish", "()V"⟩ ∈ xBIG := xin_8 (List.mem_of_getElem? (i := 148) rfl) rfl
theorem xw_518 : Cond.selects "ExpressHouse$SchemaReader" ⟨"ExpressHouse$SchemaReader", "finish", "()V"⟩ ⟨"ExpressHouse$SchemaReader", "finish", "()V"⟩ ∈ xBIG := xin_0 (List.mem_of_getElem? (i := 88) rfl) rfl
theorem xw_519 : Cond.methodLink "ExpressHouse$SchemaReader" 80 ⟨"ExpressHouse$SchemaReader", "finish", "()V"⟩ ∈ xBIG := xin_8 (List.mem_of_getElem? (i := 146) rfl) rfl
theorem xw_520 : Cond.fieldLink "ExpressHouse$SchemaReader" 83 "ExpressHouse$Expressions" "top" "I" ∈ xBIG := xin_2 (List.mem_of_getElem? (i := 150) rfl) rfl
theorem xw_521 : Cond.fieldLink "ExpressHouse$SchemaReader" 86 "ExpressHouse$Schema" "codeEnd" "I" ∈ xBIG := xin_1 (List.mem_of_getElem? (i := 212) rfl) rfl
theorem xw_522 : Cond.fieldLink "ExpressHouse$SchemaReader" 89 "ExpressHouse$Tokens" "nodes" "I" ∈ xBIG := xin_1 (List.mem_of_getElem? (i := 113) rfl) rfl
theorem xw_523 : Cond.fieldLink "ExpressHouse$SchemaReader" 92 "ExpressHouse$Schema" "nodes" "I" ∈ xBIG := xin_1 (List.mem_of_getElem? (i := 214) rfl) rfl
theorem xw_524 : Cond.instanceMethod ⟨"ExpressHouse$Schema", "complete", "()V"⟩ ∈ xBIG := xin_9 (List.mem_of_getElem? (i := 41) rfl) rfl
theorem xw_525 : Cond.selects "ExpressHouse$Schema" ⟨"ExpressHouse$Schema", "complete", "()V"⟩ ⟨"ExpressHouse$Schema", "complete", "()V"⟩ ∈ xBIG := xin_9 (List.mem_of_getElem? (i := 42) rfl) rfl
theorem xw_526 : Cond.methodLink "ExpressHouse$SchemaReader" 93 ⟨"ExpressHouse$Schema", "complete", "()V"⟩ ∈ xBIG := xin_9 (List.mem_of_getElem? (i := 40) rfl) rfl
theorem xw_527 : Cond.fieldLink "ExpressHouse$Tokens" 143 "ExpressHouse$Tokens" "softPlace" "I" ∈ xBIG := xin_1 (List.mem_of_getElem? (i := 112) rfl) rfl
theorem xw_528 : Cond.fieldLink "ExpressHouse$Tokens" 136 "ExpressHouse$Tokens" "faultPlace" "I" ∈ xBIG := xin_1 (List.mem_of_getElem? (i := 110) rfl) rfl
theorem xw_529 : Cond.fieldLink "ExpressHouse$Population" 46 "ExpressHouse$Population" "made" "I" ∈ xBIG := xin_2 (List.mem_of_getElem? (i := 102) rfl) rfl
theorem xw_530 : Cond.fieldLink "ExpressHouse$Population" 50 "ExpressHouse$Population" "saved" "Z" ∈ xBIG := xin_2 (List.mem_of_getElem? (i := 108) rfl) rfl
theorem xw_531 : Cond.fieldLink "ExpressHouse$Judge" 28 "ExpressHouse$Judge" "noted" "I" ∈ xBIG := xin_3 (List.mem_of_getElem? (i := 84) rfl) rfl
theorem xw_532 : Cond.fieldLink "ExpressHouse$Judge" 32 "ExpressHouse$Judge" "verdict" "I" ∈ xBIG := xin_3 (List.mem_of_getElem? (i := 86) rfl) rfl
theorem xw_533 : Cond.fieldLink "ExpressHouse$FileReader" 45 "ExpressHouse$FileReader" "toldCount" "I" ∈ xBIG := xin_3 (List.mem_of_getElem? (i := 125) rfl) rfl
theorem xw_534 : Cond.instanceMethod ⟨"ExpressHouse$Schema", "isConnected", "(I)Z"⟩ ∈ xBIG := xin_4 (List.mem_of_getElem? (i := 33) rfl) rfl
theorem xw_535 : Cond.selects "ExpressHouse$Schema" ⟨"ExpressHouse$Schema", "isConnected", "(I)Z"⟩ ⟨"ExpressHouse$Schema", "isConnected", "(I)Z"⟩ ∈ xBIG := xin_0 (List.mem_of_getElem? (i := 1) rfl) rfl
theorem xw_536 : Cond.methodLink "ExpressHouse$Schema" 142 ⟨"ExpressHouse$Schema", "isConnected", "(I)Z"⟩ ∈ xBIG := xin_4 (List.mem_of_getElem? (i := 31) rfl) rfl
theorem xw_537 : Cond.instanceMethod ⟨"ExpressHouse$Schema", "reasonOfParts", "(I)I"⟩ ∈ xBIG := xin_4 (List.mem_of_getElem? (i := 37) rfl) rfl
theorem xw_538 : Cond.selects "ExpressHouse$Schema" ⟨"ExpressHouse$Schema", "reasonOfParts", "(I)I"⟩ ⟨"ExpressHouse$Schema", "reasonOfParts", "(I)I"⟩ ∈ xBIG := xin_0 (List.mem_of_getElem? (i := 2) rfl) rfl
theorem xw_539 : Cond.methodLink "ExpressHouse$Schema" 145 ⟨"ExpressHouse$Schema", "reasonOfParts", "(I)I"⟩ ∈ xBIG := xin_4 (List.mem_of_getElem? (i := 35) rfl) rfl
theorem xw_540 : Cond.instanceMethod ⟨"ExpressHouse$Population", "empty", "(I)V"⟩ ∈ xBIG := xin_9 (List.mem_of_getElem? (i := 95) rfl) rfl
theorem xw_541 : Cond.selects "ExpressHouse$Population" ⟨"ExpressHouse$Population", "empty", "(I)V"⟩ ⟨"ExpressHouse$Population", "empty", "(I)V"⟩ ∈ xBIG := xin_9 (List.mem_of_getElem? (i := 96) rfl) rfl
theorem xw_542 : Cond.methodLink "ExpressHouse$Population" 70 ⟨"ExpressHouse$Population", "empty", "(I)V"⟩ ∈ xBIG := xin_9 (List.mem_of_getElem? (i := 94) rfl) rfl
theorem xw_543 : Cond.fieldLink "ExpressHouse$Population" 57 "ExpressHouse$Schema" "counts" "[I" ∈ xBIG := xin_1 (List.mem_of_getElem? (i := 170) rfl) rfl
theorem xw_544 : Cond.fieldLink "ExpressHouse$Population" 62 "ExpressHouse$Schema" "attributes" "[[I" ∈ xBIG := xin_1 (List.mem_of_getElem? (i := 188) rfl) rfl
theorem xw_545 : Cond.instanceMethod ⟨"ExpressHouse$Population", "isA", "(II)Z"⟩ ∈ xBIG := xin_4 (List.mem_of_getElem? (i := 84) rfl) rfl
theorem xw_546 : Cond.selects "ExpressHouse$Population" ⟨"ExpressHouse$Population", "isA", "(II)Z"⟩ ⟨"ExpressHouse$Population", "isA", "(II)Z"⟩ ∈ xBIG := xin_4 (List.mem_of_getElem? (i := 85) rfl) rfl
theorem xw_547 : Cond.methodLink "ExpressHouse$Population" 66 ⟨"ExpressHouse$Population", "isA", "(II)Z"⟩ ∈ xBIG := xin_4 (List.mem_of_getElem? (i := 83) rfl) rfl
theorem xw_548 : Cond.instanceMethod ⟨"ExpressHouse$Expressions", "readAlone", "(LExpressHouse$Schema;)I"⟩ ∈ xBIG := xin_9 (List.mem_of_getElem? (i := 117) rfl) rfl
theorem xw_549 : Cond.selects "ExpressHouse$Expressions" ⟨"ExpressHouse$Expressions", "readAlone", "(LExpressHouse$Schema;)I"⟩ ⟨"ExpressHouse$Expressions", "readAlone", "(LExpressHouse$Schema;)I"⟩ ∈ xBIG := xin_9 (List.mem_of_getElem? (i := 118) rfl) rfl
theorem xw_550 : Cond.methodLink "ExpressHouse" 251 ⟨"ExpressHouse$Expressions", "readAlone", "(LExpressHouse$Schema;)I"⟩ ∈ xBIG := xin_9 (List.mem_of_getElem? (i := 116) rfl) rfl
theorem xw_551 : Cond.instanceMethod ⟨"ExpressHouse$Population", "part", "()Z"⟩ ∈ xBIG := xin_4 (List.mem_of_getElem? (i := 93) rfl) rfl
theorem xw_552 : Cond.selects "ExpressHouse$Population" ⟨"ExpressHouse$Population", "part", "()Z"⟩ ⟨"ExpressHouse$Population", "part", "()Z"⟩ ∈ xBIG := xin_0 (List.mem_of_getElem? (i := 7) rfl) rfl
theorem xw_553 : Cond.methodLink "ExpressHouse$Population" 129 ⟨"ExpressHouse$Population", "part", "()Z"⟩ ∈ xBIG := xin_4 (List.mem_of_getElem? (i := 91) rfl) rfl
theorem xw_554 : Cond.fieldLink "ExpressHouse$Machine" 69 "ExpressHouse$Machine" "made" "I" ∈ xBIG := xin_3 (List.mem_of_getElem? (i := 27) rfl) rfl
theorem xw_555 : Cond.fieldLink "ExpressHouse$Machine" 72 "ExpressHouse$Machine" "spent" "Z" ∈ xBIG := xin_3 (List.mem_of_getElem? (i := 23) rfl) rfl
theorem xw_556 : Cond.fieldLink "ExpressHouse$Machine" 76 "ExpressHouse$Machine" "top" "I" ∈ xBIG := xin_3 (List.mem_of_getElem? (i := 11) rfl) rfl
theorem xw_557 : Cond.fieldLink "ExpressHouse$Machine" 79 "ExpressHouse$Machine" "frames" "I" ∈ xBIG := xin_3 (List.mem_of_getElem? (i := 17) rfl) rfl
theorem xw_558 : Cond.instanceMethod ⟨"ExpressHouse$Machine", "openFrame", "(IILExpressHouse$Value;)V"⟩ ∈ xBIG := xin_4 (List.mem_of_getElem? (i := 144) rfl) rfl
theorem xw_559 : Cond.selects "ExpressHouse$Machine" ⟨"ExpressHouse$Machine", "openFrame", "(IILExpressHouse$Value;)V"⟩ ⟨"ExpressHouse$Machine", "openFrame", "(IILExpressHouse$Value;)V"⟩ ∈ xBIG := xin_0 (List.mem_of_getElem? (i := 10) rfl) rfl
theorem xw_560 : Cond.methodLink "ExpressHouse$Machine" 82 ⟨"ExpressHouse$Machine", "openFrame", "(IILExpressHouse$Value;)V"⟩ ∈ xBIG := xin_4 (List.mem_of_getElem? (i := 142) rfl) rfl
theorem xw_561 : Cond.constant "ExpressHouse$Machine" 86 (Int32.ofNat 1000000) ∈ xBIG := xin_4 (List.mem_of_getElem? (i := 146) rfl) rfl
theorem xw_562 : Cond.instanceMethod ⟨"ExpressHouse$Machine", "fetch", "()I"⟩ ∈ xBIG := xin_4 (List.mem_of_getElem? (i := 149) rfl) rfl
theorem xw_563 : Cond.selects "ExpressHouse$Machine" ⟨"ExpressHouse$Machine", "fetch", "()I"⟩ ⟨"ExpressHouse$Machine", "fetch", "()I"⟩ ∈ xBIG := xin_0 (List.mem_of_getElem? (i := 11) rfl) rfl
theorem xw_564 : Cond.methodLink "ExpressHouse$Machine" 87 ⟨"ExpressHouse$Machine", "fetch", "()I"⟩ ∈ xBIG := xin_4 (List.mem_of_getElem? (i := 147) rfl) rfl
theorem xw_565 : Cond.instanceMethod ⟨"ExpressHouse$Machine", "plain", "(I)V"⟩ ∈ xBIG := xin_4 (List.mem_of_getElem? (i := 153) rfl) rfl
theorem xw_566 : Cond.selects "ExpressHouse$Machine" ⟨"ExpressHouse$Machine", "plain", "(I)V"⟩ ⟨"ExpressHouse$Machine", "plain", "(I)V"⟩ ∈ xBIG := xin_0 (List.mem_of_getElem? (i := 12) rfl) rfl
theorem xw_567 : Cond.methodLink "ExpressHouse$Machine" 91 ⟨"ExpressHouse$Machine", "plain", "(I)V"⟩ ∈ xBIG := xin_4 (List.mem_of_getElem? (i := 151) rfl) rfl
theorem xw_568 : Cond.instanceMethod ⟨"ExpressHouse$Machine", "operate", "(I)V"⟩ ∈ xBIG := xin_4 (List.mem_of_getElem? (i := 200) rfl) rfl
theorem xw_569 : Cond.selects "ExpressHouse$Machine" ⟨"ExpressHouse$Machine", "operate", "(I)V"⟩ ⟨"ExpressHouse$Machine", "operate", "(I)V"⟩ ∈ xBIG := xin_0 (List.mem_of_getElem? (i := 17) rfl) rfl
theorem xw_570 : Cond.methodLink "ExpressHouse$Machine" 95 ⟨"ExpressHouse$Machine", "operate", "(I)V"⟩ ∈ xBIG := xin_4 (List.mem_of_getElem? (i := 198) rfl) rfl
theorem xw_571 : Cond.instanceMethod ⟨"ExpressHouse$Machine", "lead", "(I)V"⟩ ∈ xBIG := xin_5 (List.mem_of_getElem? (i := 159) rfl) rfl
theorem xw_572 : Cond.selects "ExpressHouse$Machine" ⟨"ExpressHouse$Machine", "lead", "(I)V"⟩ ⟨"ExpressHouse$Machine", "lead", "(I)V"⟩ ∈ xBIG := xin_0 (List.mem_of_getElem? (i := 29) rfl) rfl
theorem xw_573 : Cond.methodLink "ExpressHouse$Machine" 98 ⟨"ExpressHouse$Machine", "lead", "(I)V"⟩ ∈ xBIG := xin_5 (List.mem_of_getElem? (i := 157) rfl) rfl
theorem xw_574 : Cond.instanceMethod ⟨"ExpressHouse$Machine", "pop", "()LExpressHouse$Value;"⟩ ∈ xBIG := xin_4 (List.mem_of_getElem? (i := 208) rfl) rfl
theorem xw_575 : Cond.selects "ExpressHouse$Machine" ⟨"ExpressHouse$Machine", "pop", "()LExpressHouse$Value;"⟩ ⟨"ExpressHouse$Machine", "pop", "()LExpressHouse$Value;"⟩ ∈ xBIG := xin_0 (List.mem_of_getElem? (i := 19) rfl) rfl
theorem xw_576 : Cond.methodLink "ExpressHouse$Machine" 101 ⟨"ExpressHouse$Machine", "pop", "()LExpressHouse$Value;"⟩ ∈ xBIG := xin_4 (List.mem_of_getElem? (i := 206) rfl) rfl
theorem xw_577 : Cond.fieldLink "ExpressHouse$Population" 159 "ExpressHouse$Schema" "kinds" "[[I" ∈ xBIG := xin_1 (List.mem_of_getElem? (i := 197) rfl) rfl
theorem xw_578 : Cond.instanceMethod ⟨"ExpressHouse$Population", "convertedScalar", "(LExpressHouse$Value;I)LExpressHouse$Value;"⟩ ∈ xBIG := xin_5 (List.mem_of_getElem? (i := 170) rfl) rfl
theorem xw_579 : Cond.selects "ExpressHouse$Population" ⟨"ExpressHouse$Population", "convertedScalar", "(LExpressHouse$Value;I)LExpressHouse$Value;"⟩ ⟨"ExpressHouse$Population", "convertedScalar", "(LExpressHouse$Value;I)LExpressHouse$Value;"⟩ ∈ xBIG := xin_5 (List.mem_of_getElem? (i := 171) rfl) rfl
theorem xw_580 : Cond.methodLink "ExpressHouse$Population" 162 ⟨"ExpressHouse$Population", "convertedScalar", "(LExpressHouse$Value;I)LExpressHouse$Value;"⟩ ∈ xBIG := xin_5 (List.mem_of_getElem? (i := 169) rfl) rfl
theorem xw_581 : Cond.fieldLink "ExpressHouse$Population" 90 "ExpressHouse$Value" "kind" "I" ∈ xBIG := xin_2 (List.mem_of_getElem? (i := 38) rfl) rfl
theorem xw_582 : Cond.fieldLink "ExpressHouse$Population" 110 "ExpressHouse$Value" "sort" "I" ∈ xBIG := xin_2 (List.mem_of_getElem? (i := 51) rfl) rfl
theorem xw_583 : Cond.fieldLink "ExpressHouse$Population" 101 "ExpressHouse$Value" "lane" "I" ∈ xBIG := xin_2 (List.mem_of_getElem? (i := 60) rfl) rfl
theorem xw_584 : Cond.fieldLink "ExpressHouse$Population" 97 "ExpressHouse$Value" "cells" "[J" ∈ xBIG := xin_2 (List.mem_of_getElem? (i := 71) rfl) rfl
theorem xw_585 : Cond.instanceMethod ⟨"ExpressHouse$Population", "cellsAlike", "(IJIJ)Z"⟩ ∈ xBIG := xin_4 (List.mem_of_getElem? (i := 112) rfl) rfl
theorem xw_586 : Cond.selects "ExpressHouse$Population" ⟨"ExpressHouse$Population", "cellsAlike", "(IJIJ)Z"⟩ ⟨"ExpressHouse$Population", "cellsAlike", "(IJIJ)Z"⟩ ∈ xBIG := xin_4 (List.mem_of_getElem? (i := 113) rfl) rfl
theorem xw_587 : Cond.methodLink "ExpressHouse$Population" 143 ⟨"ExpressHouse$Population", "cellsAlike", "(IJIJ)Z"⟩ ∈ xBIG := xin_4 (List.mem_of_getElem? (i := 111) rfl) rfl
theorem xw_588 : Cond.methodLink "ExpressHouse$Population" 113 ⟨"java/util/Arrays", "copyOf", "([JI)[J"⟩ ∈ xBIG := xin_4 (List.mem_of_getElem? (i := 177) rfl) rfl
theorem xw_589 : Cond.static ⟨"java/util/Arrays", "copyOf", "([JI)[J"⟩ ∈ xBIG := xin_4 (List.mem_of_getElem? (i := 178) rfl) rfl
theorem xw_590 : Cond.fieldLink "ExpressHouse$Population" 93 "ExpressHouse$Value" "bits" "J" ∈ xBIG := xin_2 (List.mem_of_getElem? (i := 45) rfl) rfl
theorem xw_591 : Cond.instanceMethod ⟨"ExpressHouse$Population", "isAccepted", "(IIJ)Z"⟩ ∈ xBIG := xin_5 (List.mem_of_getElem? (i := 183) rfl) rfl
theorem xw_592 : Cond.selects "ExpressHouse$Population" ⟨"ExpressHouse$Population", "isAccepted", "(IIJ)Z"⟩ ⟨"ExpressHouse$Population", "isAccepted", "(IIJ)Z"⟩ ∈ xBIG := xin_5 (List.mem_of_getElem? (i := 184) rfl) rfl
theorem xw_593 : Cond.methodLink "ExpressHouse$Population" 173 ⟨"ExpressHouse$Population", "isAccepted", "(IIJ)Z"⟩ ∈ xBIG := xin_5 (List.mem_of_getElem? (i := 182) rfl) rfl
theorem xw_594 : Cond.fieldLink "ExpressHouse$Population" 119 "ExpressHouse$Value" "low" "I" ∈ xBIG := xin_2 (List.mem_of_getElem? (i := 56) rfl) rfl
theorem xw_595 : Cond.instanceMethod ⟨"ExpressHouse$Value", "isHole", "(I)Z"⟩ ∈ xBIG := xin_4 (List.mem_of_getElem? (i := 127) rfl) rfl
theorem xw_596 : Cond.selects "ExpressHouse$Value" ⟨"ExpressHouse$Value", "isHole", "(I)Z"⟩ ⟨"ExpressHouse$Value", "isHole", "(I)Z"⟩ ∈ xBIG := xin_4 (List.mem_of_getElem? (i := 128) rfl) rfl
theorem xw_597 : Cond.methodLink "ExpressHouse$Population" 104 ⟨"ExpressHouse$Value", "isHole", "(I)Z"⟩ ∈ xBIG := xin_4 (List.mem_of_getElem? (i := 126) rfl) rfl
theorem xw_598 : Cond.instanceMethod ⟨"ExpressHouse$Population", "heldBy", "(II)LExpressHouse$Value;"⟩ ∈ xBIG := xin_4 (List.mem_of_getElem? (i := 104) rfl) rfl
theorem xw_599 : Cond.selects "ExpressHouse$Population" ⟨"ExpressHouse$Population", "heldBy", "(II)LExpressHouse$Value;"⟩ ⟨"ExpressHouse$Population", "heldBy", "(II)LExpressHouse$Value;"⟩ ∈ xBIG := xin_4 (List.mem_of_getElem? (i := 105) rfl) rfl
theorem xw_600 : Cond.methodLink "ExpressHouse$Population" 78 ⟨"ExpressHouse$Population", "heldBy", "(II)LExpressHouse$Value;"⟩ ∈ xBIG := xin_4 (List.mem_of_getElem? (i := 103) rfl) rfl
theorem xw_601 : Cond.methodLink "ExpressHouse$Population" 82 ⟨"ExpressHouse$Population", "isHolding", "(LExpressHouse$Value;I)Z"⟩ ∈ xBIG := xin_4 (List.mem_of_getElem? (i := 216) rfl) rfl
theorem xw_602 : Cond.static ⟨"ExpressHouse$Population", "isHolding", "(LExpressHouse$Value;I)Z"⟩ ∈ xBIG := xin_4 (List.mem_of_getElem? (i := 217) rfl) rfl
theorem xw_603 : Cond.instanceMethod ⟨"ExpressHouse$Population", "without", "(LExpressHouse$Value;I)LExpressHouse$Value;"⟩ ∈ xBIG := xin_9 (List.mem_of_getElem? (i := 136) rfl) rfl
theorem xw_604 : Cond.selects "ExpressHouse$Population" ⟨"ExpressHouse$Population", "without", "(LExpressHouse$Value;I)LExpressHouse$Value;"⟩ ⟨"ExpressHouse$Population", "without", "(LExpressHouse$Value;I)LExpressHouse$Value;"⟩ ∈ xBIG := xin_0 (List.mem_of_getElem? (i := 123) rfl) rfl
theorem xw_605 : Cond.methodLink "ExpressHouse$Population" 86 ⟨"ExpressHouse$Population", "without", "(LExpressHouse$Value;I)LExpressHouse$Value;"⟩ ∈ xBIG := xin_9 (List.mem_of_getElem? (i := 134) rfl) rfl
theorem xw_606 : Cond.methodLink "ExpressHouse$Population" 74 ⟨"ExpressHouse$Population", "hold", "(IILExpressHouse$Value;)V"⟩ ∈ xBIG := xin_9 (List.mem_of_getElem? (i := 98) rfl) rfl
theorem xw_607 : Cond.fieldLink "ExpressHouse$Schema" 87 "ExpressHouse$Schema" "codeEnd" "I" ∈ xBIG := xin_1 (List.mem_of_getElem? (i := 210) rfl) rfl
theorem xw_608 : Cond.methodLink "ExpressHouse$Judge" 43 ⟨"ExpressHouse$Judge", "clear", "()V"⟩ ∈ xBIG := xin_6 (List.mem_of_getElem? (i := 37) rfl) rfl
theorem xw_609 : Cond.fieldLink "ExpressHouse$Judge" 46 "ExpressHouse$Population" "made" "I" ∈ xBIG := xin_2 (List.mem_of_getElem? (i := 104) rfl) rfl
theorem xw_610 : Cond.methodLink "ExpressHouse$Judge" 49 ⟨"ExpressHouse$Population", "isA", "(II)Z"⟩ ∈ xBIG := xin_6 (List.mem_of_getElem? (i := 41) rfl) rfl
theorem xw_611 : Cond.instanceMethod ⟨"ExpressHouse$Judge", "isBounded", "(II)Z"⟩ ∈ xBIG := xin_6 (List.mem_of_getElem? (i := 44) rfl) rfl
theorem xw_612 : Cond.selects "ExpressHouse$Judge" ⟨"ExpressHouse$Judge", "isBounded", "(II)Z"⟩ ⟨"ExpressHouse$Judge", "isBounded", "(II)Z"⟩ ∈ xBIG := xin_0 (List.mem_of_getElem? (i := 39) rfl) rfl
theorem xw_613 : Cond.methodLink "ExpressHouse$Judge" 53 ⟨"ExpressHouse$Judge", "isBounded", "(II)Z"⟩ ∈ xBIG := xin_6 (List.mem_of_getElem? (i := 42) rfl) rfl
theorem xw_614 : Cond.instanceMethod ⟨"ExpressHouse$Judge", "note", "(II)V"⟩ ∈ xBIG := xin_6 (List.mem_of_getElem? (i := 62) rfl) rfl
theorem xw_615 : Cond.selects "ExpressHouse$Judge" ⟨"ExpressHouse$Judge", "note", "(II)V"⟩ ⟨"ExpressHouse$Judge", "note", "(II)V"⟩ ∈ xBIG := xin_0 (List.mem_of_getElem? (i := 42) rfl) rfl
theorem xw_616 : Cond.methodLink "ExpressHouse$Judge" 56 ⟨"ExpressHouse$Judge", "note", "(II)V"⟩ ∈ xBIG := xin_6 (List.mem_of_getElem? (i := 60) rfl) rfl
theorem xw_617 : Cond.instanceMethod ⟨"ExpressHouse$Judge", "isUnique", "(II)Z"⟩ ∈ xBIG := xin_6 (List.mem_of_getElem? (i := 76) rfl) rfl
theorem xw_618 : Cond.selects "ExpressHouse$Judge" ⟨"ExpressHouse$Judge", "isUnique", "(II)Z"⟩ ⟨"ExpressHouse$Judge", "isUnique", "(II)Z"⟩ ∈ xBIG := xin_0 (List.mem_of_getElem? (i := 43) rfl) rfl
theorem xw_619 : Cond.methodLink "ExpressHouse$Judge" 102 ⟨"ExpressHouse$Judge", "isUnique", "(II)Z"⟩ ∈ xBIG := xin_6 (List.mem_of_getElem? (i := 74) rfl) rfl
theorem xw_620 : Cond.fieldLink "ExpressHouse$Judge" 60 "ExpressHouse$Population" "schema" "LExpressHouse$Schema;" ∈ xBIG := xin_2 (List.mem_of_getElem? (i := 94) rfl) rfl
theorem xw_621 : Cond.fieldLink "ExpressHouse$Judge" 119 "ExpressHouse$Schema" "wheres" "[I" ∈ xBIG := xin_1 (List.mem_of_getElem? (i := 203) rfl) rfl
theorem xw_622 : Cond.instanceMethod ⟨"ExpressHouse$Schema", "startOfWhere", "(II)I"⟩ ∈ xBIG := xin_6 (List.mem_of_getElem? (i := 88) rfl) rfl
theorem xw_623 : Cond.selects "ExpressHouse$Schema" ⟨"ExpressHouse$Schema", "startOfWhere", "(II)I"⟩ ⟨"ExpressHouse$Schema", "startOfWhere", "(II)I"⟩ ∈ xBIG := xin_6 (List.mem_of_getElem? (i := 89) rfl) rfl
theorem xw_624 : Cond.methodLink "ExpressHouse$Judge" 122 ⟨"ExpressHouse$Schema", "startOfWhere", "(II)I"⟩ ∈ xBIG := xin_6 (List.mem_of_getElem? (i := 87) rfl) rfl
theorem xw_625 : Cond.classLink "ExpressHouse$Judge" 88 "ExpressHouse$Value" ∈ xBIG := xin_6 (List.mem_of_getElem? (i := 91) rfl) rfl
theorem xw_626 : Cond.methodLink "ExpressHouse$Judge" 128 ⟨"ExpressHouse$Machine", "run", "(ILExpressHouse$Value;)LExpressHouse$Value;"⟩ ∈ xBIG := xin_6 (List.mem_of_getElem? (i := 93) rfl) rfl
theorem xw_627 : Cond.instanceMethod ⟨"ExpressHouse$Judge", "verdictOf", "(LExpressHouse$Value;)I"⟩ ∈ xBIG := xin_6 (List.mem_of_getElem? (i := 96) rfl) rfl
theorem xw_628 : Cond.selects "ExpressHouse$Judge" ⟨"ExpressHouse$Judge", "verdictOf", "(LExpressHouse$Value;)I"⟩ ⟨"ExpressHouse$Judge", "verdictOf", "(LExpressHouse$Value;)I"⟩ ∈ xBIG := xin_0 (List.mem_of_getElem? (i := 45) rfl) rfl
theorem xw_629 : Cond.methodLink "ExpressHouse$Judge" 134 ⟨"ExpressHouse$Judge", "verdictOf", "(LExpressHouse$Value;)I"⟩ ∈ xBIG := xin_6 (List.mem_of_getElem? (i := 94) rfl) rfl
theorem xw_630 : Cond.methodLink "ExpressHouse$Judge" 35 ⟨"ExpressHouse$Judge", "worse", "(II)I"⟩ ∈ xBIG := xin_6 (List.mem_of_getElem? (i := 64) rfl) rfl
theorem xw_631 : Cond.static ⟨"ExpressHouse$Judge", "worse", "(II)I"⟩ ∈ xBIG := xin_6 (List.mem_of_getElem? (i := 65) rfl) rfl
theorem xw_632 : Cond.fieldLink "ExpressHouse$Judge" 64 "ExpressHouse$Schema" "counts" "[I" ∈ xBIG := xin_1 (List.mem_of_getElem? (i := 171) rfl) rfl
theorem xw_633 : Cond.methodLink "ExpressHouse$Judge" 79 ⟨"ExpressHouse$Population", "heldBy", "(II)LExpressHouse$Value;"⟩ ∈ xBIG := xin_6 (List.mem_of_getElem? (i := 55) rfl) rfl
theorem xw_634 : Cond.methodLink "ExpressHouse$Judge" 138 ⟨"ExpressHouse$Population", "has", "(II)Z"⟩ ∈ xBIG := xin_6 (List.mem_of_getElem? (i := 103) rfl) rfl
theorem xw_635 : Cond.instanceMethod ⟨"ExpressHouse$Judge", "isJust", "(II)Z"⟩ ∈ xBIG := xin_6 (List.mem_of_getElem? (i := 106) rfl) rfl
theorem xw_636 : Cond.selects "ExpressHouse$Judge" ⟨"ExpressHouse$Judge", "isJust", "(II)Z"⟩ ⟨"ExpressHouse$Judge", "isJust", "(II)Z"⟩ ∈ xBIG := xin_0 (List.mem_of_getElem? (i := 46) rfl) rfl
theorem xw_637 : Cond.methodLink "ExpressHouse$Judge" 141 ⟨"ExpressHouse$Judge", "isJust", "(II)Z"⟩ ∈ xBIG := xin_6 (List.mem_of_getElem? (i := 104) rfl) rfl
theorem xw_638 : Cond.fieldLink "ExpressHouse$Judge" 87 "ExpressHouse$Value" "kind" "I" ∈ xBIG := xin_2 (List.mem_of_getElem? (i := 34) rfl) rfl
theorem xw_639 : Cond.fieldLink "ExpressHouse$Judge" 148 "ExpressHouse$Population" "nothing" "LExpressHouse$Value;" ∈ xBIG := xin_2 (List.mem_of_getElem? (i := 100) rfl) rfl
theorem xw_640 : Cond.fieldLink "ExpressHouse$FileWriter" 22 "ExpressHouse$FileWriter" "drafted" "I" ∈ xBIG := xin_3 (List.mem_of_getElem? (i := 180) rfl) rfl
theorem xw_641 : Cond.instanceMethod ⟨"ExpressHouse$FileWriter", "add", "(I)V"⟩ ∈ xBIG := xin_6 (List.mem_of_getElem? (i := 132) rfl) rfl
theorem xw_642 : Cond.selects "ExpressHouse$FileWriter" ⟨"ExpressHouse$FileWriter", "add", "(I)V"⟩ ⟨"ExpressHouse$FileWriter", "add", "(I)V"⟩ ∈ xBIG := xin_0 (List.mem_of_getElem? (i := 47) rfl) rfl
theorem xw_643 : Cond.methodLink "ExpressHouse$FileWriter" 29 ⟨"ExpressHouse$FileWriter", "add", "(I)V"⟩ ∈ xBIG := xin_6 (List.mem_of_getElem? (i := 130) rfl) rfl
theorem xw_644 : Cond.instanceMethod ⟨"ExpressHouse$FileWriter", "number", "(J)V"⟩ ∈ xBIG := xin_6 (List.mem_of_getElem? (i := 136) rfl) rfl
theorem xw_645 : Cond.selects "ExpressHouse$FileWriter" ⟨"ExpressHouse$FileWriter", "number", "(J)V"⟩ ⟨"ExpressHouse$FileWriter", "number", "(J)V"⟩ ∈ xBIG := xin_0 (List.mem_of_getElem? (i := 48) rfl) rfl
theorem xw_646 : Cond.methodLink "ExpressHouse$FileWriter" 33 ⟨"ExpressHouse$FileWriter", "number", "(J)V"⟩ ∈ xBIG := xin_6 (List.mem_of_getElem? (i := 134) rfl) rfl
theorem xw_647 : Cond.fieldLink "ExpressHouse$FileWriter" 37 "ExpressHouse$Population" "schema" "LExpressHouse$Schema;" ∈ xBIG := xin_2 (List.mem_of_getElem? (i := 93) rfl) rfl
theorem xw_648 : Cond.fieldLink "ExpressHouse$FileWriter" 43 "ExpressHouse$Schema" "counts" "[I" ∈ xBIG := xin_1 (List.mem_of_getElem? (i := 168) rfl) rfl
theorem xw_649 : Cond.fieldLink "ExpressHouse$FileWriter" 49 "ExpressHouse$Schema" "entities" "[[I" ∈ xBIG := xin_1 (List.mem_of_getElem? (i := 178) rfl) rfl
theorem xw_650 : Cond.instanceMethod ⟨"ExpressHouse$FileWriter", "form", "(III)V"⟩ ∈ xBIG := xin_6 (List.mem_of_getElem? (i := 142) rfl) rfl
theorem xw_651 : Cond.selects "ExpressHouse$FileWriter" ⟨"ExpressHouse$FileWriter", "form", "(III)V"⟩ ⟨"ExpressHouse$FileWriter", "form", "(III)V"⟩ ∈ xBIG := xin_0 (List.mem_of_getElem? (i := 49) rfl) rfl
theorem xw_652 : Cond.methodLink "ExpressHouse$FileWriter" 53 ⟨"ExpressHouse$FileWriter", "form", "(III)V"⟩ ∈ xBIG := xin_6 (List.mem_of_getElem? (i := 140) rfl) rfl
theorem xw_653 : Cond.fieldLink "ExpressHouse$FileWriter" 26 "ExpressHouse$FileWriter" "size" "I" ∈ xBIG := xin_3 (List.mem_of_getElem? (i := 177) rfl) rfl
theorem xw_654 : Cond.methodLink "ExpressHouse$Population" 53 ⟨"ExpressHouse$Population", "exists", "(I)Z"⟩ ∈ xBIG := xin_4 (List.mem_of_getElem? (i := 15) rfl) rfl
theorem xw_655 : Cond.fieldLink "ExpressHouse$Population" 180 "ExpressHouse$Population" "savedMade" "I" ∈ xBIG := xin_2 (List.mem_of_getElem? (i := 109) rfl) rfl
theorem xw_656 : Cond.methodLink "ExpressHouse$Population" 183 ⟨"java/lang/System", "arraycopy", "(Ljava/lang/Object;ILjava/lang/Object;II)V"⟩ ∈ xBIG := xin_6 (List.mem_of_getElem? (i := 199) rfl) rfl
theorem xw_657 : Cond.native ⟨"java/lang/System", "arraycopy", "(Ljava/lang/Object;ILjava/lang/Object;II)V"⟩ ∈ xBIG := xin_4 (List.mem_of_getElem? (i := 190) rfl) rfl
theorem xw_658 : Cond.static ⟨"java/lang/System", "arraycopy", "(Ljava/lang/Object;ILjava/lang/Object;II)V"⟩ ∈ xBIG := xin_4 (List.mem_of_getElem? (i := 189) rfl) rfl
theorem xw_659 : Cond.initialized "java/lang/System" ∈ xBIG := xin_1 (List.mem_of_getElem? (i := 20) rfl) rfl
theorem xw_660 : Cond.fieldLink "ExpressHouse$Schema" 94 "ExpressHouse$Schema" "counted" "Z" ∈ xBIG := xin_1 (List.mem_of_getElem? (i := 217) rfl) rfl
theorem xw_661 : Cond.instanceMethod ⟨"ExpressHouse$Schema", "countCombinations", "()V"⟩ ∈ xBIG := xin_4 (List.mem_of_getElem? (i := 61) rfl) rfl
theorem xw_662 : Cond.selects "ExpressHouse$Schema" ⟨"ExpressHouse$Schema", "countCombinations", "()V"⟩ ⟨"ExpressHouse$Schema", "countCombinations", "()V"⟩ ∈ xBIG := xin_0 (List.mem_of_getElem? (i := 6) rfl) rfl
theorem xw_663 : Cond.methodLink "ExpressHouse$Schema" 159 ⟨"ExpressHouse$Schema", "countCombinations", "()V"⟩ ∈ xBIG := xin_4 (List.mem_of_getElem? (i := 59) rfl) rfl
theorem xw_664 : Cond.fieldLink "ExpressHouse$FileReader" 52 "ExpressHouse$FileReader" "length" "I" ∈ xBIG := xin_3 (List.mem_of_getElem? (i := 109) rfl) rfl
theorem xw_665 : Cond.fieldLink "ExpressHouse$FileReader" 55 "ExpressHouse$FileReader" "fault" "I" ∈ xBIG := xin_3 (List.mem_of_getElem? (i := 112) rfl) rfl
theorem xw_666 : Cond.fieldLink "ExpressHouse$FileReader" 58 "ExpressHouse$FileReader" "entries" "I" ∈ xBIG := xin_3 (List.mem_of_getElem? (i := 118) rfl) rfl
theorem xw_667 : Cond.fieldLink "ExpressHouse$FileReader" 61 "ExpressHouse$FileReader" "sensing" "Z" ∈ xBIG := xin_3 (List.mem_of_getElem? (i := 111) rfl) rfl
theorem xw_668 : Cond.fieldLink "ExpressHouse$FileReader" 65 "ExpressHouse$FileReader" "at" "I" ∈ xBIG := xin_3 (List.mem_of_getElem? (i := 110) rfl) rfl
theorem xw_669 : Cond.fieldLink "ExpressHouse$FileReader" 68 "ExpressHouse$FileReader" "entry" "I" ∈ xBIG := xin_3 (List.mem_of_getElem? (i := 119) rfl) rfl
theorem xw_670 : Cond.fieldLink "ExpressHouse$FileReader" 71 "ExpressHouse$Population" "made" "I" ∈ xBIG := xin_2 (List.mem_of_getElem? (i := 103) rfl) rfl
theorem xw_671 : Cond.instanceMethod ⟨"ExpressHouse$Population", "announce", "(II)V"⟩ ∈ xBIG := xin_9 (List.mem_of_getElem? (i := 181) rfl) rfl
theorem xw_672 : Cond.selects "ExpressHouse$Population" ⟨"ExpressHouse$Population", "announce", "(II)V"⟩ ⟨"ExpressHouse$Population", "announce", "(II)V"⟩ ∈ xBIG := xin_9 (List.mem_of_getElem? (i := 182) rfl) rfl
theorem xw_673 : Cond.methodLink "ExpressHouse$FileReader" 74 ⟨"ExpressHouse$Population", "announce", "(II)V"⟩ ∈ xBIG := xin_9 (List.mem_of_getElem? (i := 180) rfl) rfl
theorem xw_674 : Cond.instanceMethod ⟨"ExpressHouse$FileReader", "blanks", "()V"⟩ ∈ xBIG := xin_9 (List.mem_of_getElem? (i := 186) rfl) rfl
theorem xw_675 : Cond.selects "ExpressHouse$FileReader" ⟨"ExpressHouse$FileReader", "blanks", "()V"⟩ ⟨"ExpressHouse$FileReader", "blanks", "()V"⟩ ∈ xBIG := xin_0 (List.mem_of_getElem? (i := 124) rfl) rfl
theorem xw_676 : Cond.methodLink "ExpressHouse$FileReader" 78 ⟨"ExpressHouse$FileReader", "blanks", "()V"⟩ ∈ xBIG := xin_9 (List.mem_of_getElem? (i := 184) rfl) rfl
theorem xw_677 : Cond.instanceMethod ⟨"ExpressHouse$FileReader", "reference", "()I"⟩ ∈ xBIG := xin_9 (List.mem_of_getElem? (i := 203) rfl) rfl
theorem xw_678 : Cond.selects "ExpressHouse$FileReader" ⟨"ExpressHouse$FileReader", "reference", "()I"⟩ ⟨"ExpressHouse$FileReader", "reference", "()I"⟩ ∈ xBIG := xin_0 (List.mem_of_getElem? (i := 126) rfl) rfl
theorem xw_679 : Cond.methodLink "ExpressHouse$FileReader" 113 ⟨"ExpressHouse$FileReader", "reference", "()I"⟩ ∈ xBIG := xin_9 (List.mem_of_getElem? (i := 201) rfl) rfl
theorem xw_680 : Cond.instanceMethod ⟨"ExpressHouse$FileReader", "checkEntry", "(II)V"⟩ ∈ xBIG := xin_9 (List.mem_of_getElem? (i := 216) rfl) rfl
theorem xw_681 : Cond.selects "ExpressHouse$FileReader" ⟨"ExpressHouse$FileReader", "checkEntry", "(II)V"⟩ ⟨"ExpressHouse$FileReader", "checkEntry", "(II)V"⟩ ∈ xBIG := xin_0 (List.mem_of_getElem? (i := 129) rfl) rfl
theorem xw_682 : Cond.methodLink "ExpressHouse$FileReader" 116 ⟨"ExpressHouse$FileReader", "checkEntry", "(II)V"⟩ ∈ xBIG := xin_9 (List.mem_of_getElem? (i := 214) rfl) rfl
theorem xw_683 : Cond.instanceMethod ⟨"ExpressHouse$FileReader", "addEntry", "(I)V"⟩ ∈ xBIG := xin_9 (List.mem_of_getElem? (i := 226) rfl) rfl
theorem xw_684 : Cond.selects "ExpressHouse$FileReader" ⟨"ExpressHouse$FileReader", "addEntry", "(I)V"⟩ ⟨"ExpressHouse$FileReader", "addEntry", "(I)V"⟩ ∈ xBIG := xin_0 (List.mem_of_getElem? (i := 131) rfl) rfl
theorem xw_685 : Cond.methodLink "ExpressHouse$FileReader" 119 ⟨"ExpressHouse$FileReader", "addEntry", "(I)V"⟩ ∈ xBIG := xin_9 (List.mem_of_getElem? (i := 224) rfl) rfl
theorem xw_686 : Cond.fieldLink "ExpressHouse$FileReader" 122 "ExpressHouse$FileReader" "named" "I" ∈ xBIG := xin_3 (List.mem_of_getElem? (i := 120) rfl) rfl
theorem xw_687 : Cond.instanceMethod ⟨"ExpressHouse$FileReader", "sign", "(I)V"⟩ ∈ xBIG := xin_9 (List.mem_of_getElem? (i := 230) rfl) rfl
theorem xw_688 : Cond.selects "ExpressHouse$FileReader" ⟨"ExpressHouse$FileReader", "sign", "(I)V"⟩ ⟨"ExpressHouse$FileReader", "sign", "(I)V"⟩ ∈ xBIG := xin_0 (List.mem_of_getElem? (i := 132) rfl) rfl
theorem xw_689 : Cond.methodLink "ExpressHouse$FileReader" 125 ⟨"ExpressHouse$FileReader", "sign", "(I)V"⟩ ∈ xBIG := xin_9 (List.mem_of_getElem? (i := 228) rfl) rfl
theorem xw_690 : Cond.instanceMethod ⟨"ExpressHouse$FileReader", "peek", "()I"⟩ ∈ xBIG := xin_9 (List.mem_of_getElem? (i := 190) rfl) rfl
theorem xw_691 : Cond.selects "ExpressHouse$FileReader" ⟨"ExpressHouse$FileReader", "peek", "()I"⟩ ⟨"ExpressHouse$FileReader", "peek", "()I"⟩ ∈ xBIG := xin_0 (List.mem_of_getElem? (i := 125) rfl) rfl
theorem xw_692 : Cond.methodLink "ExpressHouse$FileReader" 100 ⟨"ExpressHouse$FileReader", "peek", "()I"⟩ ∈ xBIG := xin_9 (List.mem_of_getElem? (i := 188) rfl) rfl
theorem xw_693 : Cond.instanceMethod ⟨"ExpressHouse$FileReader", "form", "(Z)V"⟩ ∈ xBIG := xin_9 (List.mem_of_getElem? (i := 234) rfl) rfl
theorem xw_694 : Cond.selects "ExpressHouse$FileReader" ⟨"ExpressHouse$FileReader", "form", "(Z)V"⟩ ⟨"ExpressHouse$FileReader", "form", "(Z)V"⟩ ∈ xBIG := xin_0 (List.mem_of_getElem? (i := 133) rfl) rfl
theorem xw_695 : Cond.methodLink "ExpressHouse$FileReader" 128 ⟨"ExpressHouse$FileReader", "form", "(Z)V"⟩ ∈ xBIG := xin_9 (List.mem_of_getElem? (i := 232) rfl) rfl
theorem xw_696 : Cond.fieldLink "ExpressHouse$FileReader" 81 "ExpressHouse$FileReader" "faultPlace" "I" ∈ xBIG := xin_3 (List.mem_of_getElem? (i := 114) rfl) rfl
theorem xw_697 : Cond.fieldLink "ExpressHouse$FileReader" 49 "ExpressHouse$FileReader" "toldFirst" "I" ∈ xBIG := xin_3 (List.mem_of_getElem? (i := 126) rfl) rfl
theorem xw_698 : Cond.methodLink "ExpressHouse$FileReader" 84 ⟨"java/lang/Math", "min", "(II)I"⟩ ∈ xBIG := xin_10 (List.mem_of_getElem? (i := 66) rfl) rfl
theorem xw_699 : Cond.methodLink "ExpressHouse$FileReader" 90 ⟨"java/lang/System", "arraycopy", "(Ljava/lang/Object;ILjava/lang/Object;II)V"⟩ ∈ xBIG := xin_10 (List.mem_of_getElem? (i := 67) rfl) rfl
theorem xw_700 : Cond.instanceMethod ⟨"ExpressHouse$Population", "addAll", "(I)V"⟩ ∈ xBIG := xin_10 (List.mem_of_getElem? (i := 69) rfl) rfl
theorem xw_701 : Cond.selects "ExpressHouse$Population" ⟨"ExpressHouse$Population", "addAll", "(I)V"⟩ ⟨"ExpressHouse$Population", "addAll", "(I)V"⟩ ∈ xBIG := xin_10 (List.mem_of_getElem? (i := 70) rfl) rfl
theorem xw_702 : Cond.methodLink "ExpressHouse$FileReader" 96 ⟨"ExpressHouse$Population", "addAll", "(I)V"⟩ ∈ xBIG := xin_10 (List.mem_of_getElem? (i := 68) rfl) rfl
theorem xw_703 : Cond.methodLink "ExpressHouse$Tokens" 82 ⟨"ExpressHouse$Tokens", "isLetter", "(I)Z"⟩ ∈ xBIG := xin_7 (List.mem_of_getElem? (i := 74) rfl) rfl
theorem xw_704 : Cond.static ⟨"ExpressHouse$Tokens", "isLetter", "(I)Z"⟩ ∈ xBIG := xin_7 (List.mem_of_getElem? (i := 75) rfl) rfl
theorem xw_705 : Cond.instanceMethod ⟨"ExpressHouse$Tokens", "scanName", "([BII)I"⟩ ∈ xBIG := xin_7 (List.mem_of_getElem? (i := 79) rfl) rfl
theorem xw_706 : Cond.selects "ExpressHouse$Tokens" ⟨"ExpressHouse$Tokens", "scanName", "([BII)I"⟩ ⟨"ExpressHouse$Tokens", "scanName", "([BII)I"⟩ ∈ xBIG := xin_0 (List.mem_of_getElem? (i := 57) rfl) rfl
theorem xw_707 : Cond.methodLink "ExpressHouse$Tokens" 85 ⟨"ExpressHouse$Tokens", "scanName", "([BII)I"⟩ ∈ xBIG := xin_7 (List.mem_of_getElem? (i := 77) rfl) rfl
theorem xw_708 : Cond.methodLink "ExpressHouse$Tokens" 88 ⟨"ExpressHouse$Tokens", "isDigit", "(I)Z"⟩ ∈ xBIG := xin_7 (List.mem_of_getElem? (i := 89) rfl) rfl
theorem xw_709 : Cond.static ⟨"ExpressHouse$Tokens", "isDigit", "(I)Z"⟩ ∈ xBIG := xin_7 (List.mem_of_getElem? (i := 90) rfl) rfl
theorem xw_710 : Cond.instanceMethod ⟨"ExpressHouse$Tokens", "scanNumber", "([BII)I"⟩ ∈ xBIG := xin_7 (List.mem_of_getElem? (i := 94) rfl) rfl
theorem xw_711 : Cond.selects "ExpressHouse$Tokens" ⟨"ExpressHouse$Tokens", "scanNumber", "([BII)I"⟩ ⟨"ExpressHouse$Tokens", "scanNumber", "([BII)I"⟩ ∈ xBIG := xin_0 (List.mem_of_getElem? (i := 59) rfl) rfl
theorem xw_712 : Cond.methodLink "ExpressHouse$Tokens" 91 ⟨"ExpressHouse$Tokens", "scanNumber", "([BII)I"⟩ ∈ xBIG := xin_7 (List.mem_of_getElem? (i := 92) rfl) rfl
theorem xw_713 : Cond.methodLink "ExpressHouse$Tokens" 94 ⟨"ExpressHouse$Tokens", "longSign", "(III)I"⟩ ∈ xBIG := xin_7 (List.mem_of_getElem? (i := 101) rfl) rfl
theorem xw_714 : Cond.static ⟨"ExpressHouse$Tokens", "longSign", "(III)I"⟩ ∈ xBIG := xin_7 (List.mem_of_getElem? (i := 102) rfl) rfl
theorem xw_715 : Cond.methodLink "ExpressHouse$Tokens" 98 ⟨"ExpressHouse$Tokens", "shortSign", "(I)I"⟩ ∈ xBIG := xin_7 (List.mem_of_getElem? (i := 104) rfl) rfl
theorem xw_716 : Cond.static ⟨"ExpressHouse$Tokens", "shortSign", "(I)I"⟩ ∈ xBIG := xin_7 (List.mem_of_getElem? (i := 105) rfl) rfl
theorem xw_717 : Cond.fieldLink "ExpressHouse$Tokens" 114 "ExpressHouse$Tokens" "at" "I" ∈ xBIG := xin_1 (List.mem_of_getElem? (i := 98) rfl) rfl
theorem xw_718 : Cond.fieldLink "ExpressHouse$Tokens" 117 "ExpressHouse$Tokens" "nodes" "I" ∈ xBIG := xin_1 (List.mem_of_getElem? (i := 114) rfl) rfl
theorem xw_719 : Cond.fieldLink "ExpressHouse$Tokens" 120 "ExpressHouse$Tokens" "openings" "I" ∈ xBIG := xin_1 (List.mem_of_getElem? (i := 115) rfl) rfl
theorem xw_720 : Cond.fieldLink "ExpressHouse$Tokens" 123 "ExpressHouse$Tokens" "current" "I" ∈ xBIG := xin_1 (List.mem_of_getElem? (i := 101) rfl) rfl
theorem xw_721 : Cond.instanceMethod ⟨"ExpressHouse$Tokens", "advance", "()V"⟩ ∈ xBIG := xin_7 (List.mem_of_getElem? (i := 112) rfl) rfl
theorem xw_722 : Cond.selects "ExpressHouse$Tokens" ⟨"ExpressHouse$Tokens", "advance", "()V"⟩ ⟨"ExpressHouse$Tokens", "advance", "()V"⟩ ∈ xBIG := xin_7 (List.mem_of_getElem? (i := 113) rfl) rfl
theorem xw_723 : Cond.methodLink "ExpressHouse$Tokens" 126 ⟨"ExpressHouse$Tokens", "advance", "()V"⟩ ∈ xBIG := xin_7 (List.mem_of_getElem? (i := 111) rfl) rfl
theorem xw_724 : Cond.methodLink "ExpressHouse$Schema" 74 ⟨"java/util/Arrays", "fill", "([II)V"⟩ ∈ xBIG := xin_4 (List.mem_of_getElem? (i := 63) rfl) rfl
theorem xw_725 : Cond.methodLink "ExpressHouse$Schema" 80 ⟨"java/util/Arrays", "fill", "([JJ)V"⟩ ∈ xBIG := xin_7 (List.mem_of_getElem? (i := 123) rfl) rfl
theorem xw_726 : Cond.static ⟨"java/util/Arrays", "fill", "([JJ)V"⟩ ∈ xBIG := xin_7 (List.mem_of_getElem? (i := 124) rfl) rfl
theorem xw_727 : Cond.methodLink "ExpressHouse$Schema" 83 ⟨"ExpressHouse$Schema", "clearTable", "([[I)V"⟩ ∈ xBIG := xin_7 (List.mem_of_getElem? (i := 126) rfl) rfl
theorem xw_728 : Cond.static ⟨"ExpressHouse$Schema", "clearTable", "([[I)V"⟩ ∈ xBIG := xin_7 (List.mem_of_getElem? (i := 127) rfl) rfl
theorem xw_729 : Cond.fieldLink "ExpressHouse$Schema" 91 "ExpressHouse$Schema" "nodes" "I" ∈ xBIG := xin_1 (List.mem_of_getElem? (i := 213) rfl) rfl
theorem xw_730 : Cond.fieldLink "ExpressHouse$Expressions" 32 "ExpressHouse$Expressions" "binding" "Z" ∈ xBIG := xin_2 (List.mem_of_getElem? (i := 148) rfl) rfl
theorem xw_731 : Cond.fieldLink "ExpressHouse$Expressions" 36 "ExpressHouse$Expressions" "top" "I" ∈ xBIG := xin_2 (List.mem_of_getElem? (i := 149) rfl) rfl
theorem xw_732 : Cond.instanceMethod ⟨"ExpressHouse$Expressions", "enter", "(IZ)V"⟩ ∈ xBIG := xin_7 (List.mem_of_getElem? (i := 139) rfl) rfl
theorem xw_733 : Cond.selects "ExpressHouse$Expressions" ⟨"ExpressHouse$Expressions", "enter", "(IZ)V"⟩ ⟨"ExpressHouse$Expressions", "enter", "(IZ)V"⟩ ∈ xBIG := xin_7 (List.mem_of_getElem? (i := 140) rfl) rfl
theorem xw_734 : Cond.methodLink "ExpressHouse$Expressions" 40 ⟨"ExpressHouse$Expressions", "enter", "(IZ)V"⟩ ∈ xBIG := xin_7 (List.mem_of_getElem? (i := 138) rfl) rfl
theorem xw_735 : Cond.fieldLink "ExpressHouse$Tokens" 129 "ExpressHouse$Tokens" "place" "I" ∈ xBIG := xin_1 (List.mem_of_getElem? (i := 103) rfl) rfl
theorem xw_736 : Cond.fieldLink "ExpressHouse$Tokens" 132 "ExpressHouse$Tokens" "value" "J" ∈ xBIG := xin_1 (List.mem_of_getElem? (i := 106) rfl) rfl
theorem xw_737 : Cond.methodLink "ExpressHouse$SchemaReader" 126 ⟨"ExpressHouse$Tokens", "advance", "()V"⟩ ∈ xBIG := xin_7 (List.mem_of_getElem? (i := 152) rfl) rfl
theorem xw_738 : Cond.fieldLink "ExpressHouse$SchemaReader" 119 "ExpressHouse$Tokens" "place" "I" ∈ xBIG := xin_1 (List.mem_of_getElem? (i := 102) rfl) rfl
theorem xw_739 : Cond.instanceMethod ⟨"ExpressHouse$SchemaReader", "declare", "(I)I"⟩ ∈ xBIG := xin_7 (List.mem_of_getElem? (i := 155) rfl) rfl
theorem xw_740 : Cond.selects "ExpressHouse$SchemaReader" ⟨"ExpressHouse$SchemaReader", "declare", "(I)I"⟩ ⟨"ExpressHouse$SchemaReader", "declare", "(I)I"⟩ ∈ xBIG := xin_0 (List.mem_of_getElem? (i := 61) rfl) rfl
theorem xw_741 : Cond.methodLink "ExpressHouse$SchemaReader" 129 ⟨"ExpressHouse$SchemaReader", "declare", "(I)I"⟩ ∈ xBIG := xin_7 (List.mem_of_getElem? (i := 153) rfl) rfl
theorem xw_742 : Cond.instanceMethod ⟨"ExpressHouse$Schema", "isCircular", "(I)Z"⟩ ∈ xBIG := xin_7 (List.mem_of_getElem? (i := 186) rfl) rfl
theorem xw_743 : Cond.selects "ExpressHouse$Schema" ⟨"ExpressHouse$Schema", "isCircular", "(I)Z"⟩ ⟨"ExpressHouse$Schema", "isCircular", "(I)Z"⟩ ∈ xBIG := xin_7 (List.mem_of_getElem? (i := 187) rfl) rfl
theorem xw_744 : Cond.methodLink "ExpressHouse$SchemaReader" 132 ⟨"ExpressHouse$Schema", "isCircular", "(I)Z"⟩ ∈ xBIG := xin_7 (List.mem_of_getElem? (i := 185) rfl) rfl
theorem xw_745 : Cond.instanceMethod ⟨"ExpressHouse$Tokens", "soft", "(II)V"⟩ ∈ xBIG := xin_7 (List.mem_of_getElem? (i := 193) rfl) rfl
theorem xw_746 : Cond.selects "ExpressHouse$Tokens" ⟨"ExpressHouse$Tokens", "soft", "(II)V"⟩ ⟨"ExpressHouse$Tokens", "soft", "(II)V"⟩ ∈ xBIG := xin_7 (List.mem_of_getElem? (i := 194) rfl) rfl
theorem xw_747 : Cond.methodLink "ExpressHouse$SchemaReader" 122 ⟨"ExpressHouse$Tokens", "soft", "(II)V"⟩ ∈ xBIG := xin_7 (List.mem_of_getElem? (i := 192) rfl) rfl
theorem xw_748 : Cond.instanceMethod ⟨"ExpressHouse$Tokens", "is", "(I)Z"⟩ ∈ xBIG := xin_7 (List.mem_of_getElem? (i := 161) rfl) rfl
theorem xw_749 : Cond.selects "ExpressHouse$Tokens" ⟨"ExpressHouse$Tokens", "is", "(I)Z"⟩ ⟨"ExpressHouse$Tokens", "is", "(I)Z"⟩ ∈ xBIG := xin_7 (List.mem_of_getElem? (i := 162) rfl) rfl
theorem xw_750 : Cond.methodLink "ExpressHouse$SchemaReader" 100 ⟨"ExpressHouse$Tokens", "is", "(I)Z"⟩ ∈ xBIG := xin_7 (List.mem_of_getElem? (i := 160) rfl) rfl
theorem xw_751 : Cond.instanceMethod ⟨"ExpressHouse$SchemaReader", "enumeration", "(I)V"⟩ ∈ xBIG := xin_7 (List.mem_of_getElem? (i := 198) rfl) rfl
theorem xw_752 : Cond.selects "ExpressHouse$SchemaReader" ⟨"ExpressHouse$SchemaReader", "enumeration", "(I)V"⟩ ⟨"ExpressHouse$SchemaReader", "enumeration", "(I)V"⟩ ∈ xBIG := xin_0 (List.mem_of_getElem? (i := 62) rfl) rfl
theorem xw_753 : Cond.methodLink "ExpressHouse$SchemaReader" 135 ⟨"ExpressHouse$SchemaReader", "enumeration", "(I)V"⟩ ∈ xBIG := xin_7 (List.mem_of_getElem? (i := 196) rfl) rfl
theorem xw_754 : Cond.instanceMethod ⟨"ExpressHouse$SchemaReader", "selection", "(I)V"⟩ ∈ xBIG := xin_7 (List.mem_of_getElem? (i := 202) rfl) rfl
theorem xw_755 : Cond.selects "ExpressHouse$SchemaReader" ⟨"ExpressHouse$SchemaReader", "selection", "(I)V"⟩ ⟨"ExpressHouse$SchemaReader", "selection", "(I)V"⟩ ∈ xBIG := xin_0 (List.mem_of_getElem? (i := 63) rfl) rfl
theorem xw_756 : Cond.methodLink "ExpressHouse$SchemaReader" 138 ⟨"ExpressHouse$SchemaReader", "selection", "(I)V"⟩ ∈ xBIG := xin_7 (List.mem_of_getElem? (i := 200) rfl) rfl
theorem xw_757 : Cond.instanceMethod ⟨"ExpressHouse$SchemaReader", "plainType", "(I)V"⟩ ∈ xBIG := xin_7 (List.mem_of_getElem? (i := 228) rfl) rfl
theorem xw_758 : Cond.selects "ExpressHouse$SchemaReader" ⟨"ExpressHouse$SchemaReader", "plainType", "(I)V"⟩ ⟨"ExpressHouse$SchemaReader", "plainType", "(I)V"⟩ ∈ xBIG := xin_0 (List.mem_of_getElem? (i := 66) rfl) rfl
theorem xw_759 : Cond.methodLink "ExpressHouse$SchemaReader" 141 ⟨"ExpressHouse$SchemaReader", "plainType", "(I)V"⟩ ∈ xBIG := xin_7 (List.mem_of_getElem? (i := 226) rfl) rfl
theorem xw_760 : Cond.methodLink "ExpressHouse$SchemaReader" 144 ⟨"ExpressHouse$Expressions", "enter", "(IZ)V"⟩ ∈ xBIG := xin_8 (List.mem_of_getElem? (i := 4) rfl) rfl
theorem xw_761 : Cond.instanceMethod ⟨"ExpressHouse$SchemaReader", "where", "(I)V"⟩ ∈ xBIG := xin_8 (List.mem_of_getElem? (i := 7) rfl) rfl
theorem xw_762 : Cond.selects "ExpressHouse$SchemaReader" ⟨"ExpressHouse$SchemaReader", "where", "(I)V"⟩ ⟨"ExpressHouse$SchemaReader", "where", "(I)V"⟩ ∈ xBIG := xin_0 (List.mem_of_getElem? (i := 70) rfl) rfl
theorem xw_763 : Cond.methodLink "ExpressHouse$SchemaReader" 148 ⟨"ExpressHouse$SchemaReader", "where", "(I)V"⟩ ∈ xBIG := xin_8 (List.mem_of_getElem? (i := 5) rfl) rfl
theorem xw_764 : Cond.fieldLink "ExpressHouse$SchemaReader" 218 "ExpressHouse$Schema" "entities" "[[I" ∈ xBIG := xin_1 (List.mem_of_getElem? (i := 180) rfl) rfl
theorem xw_765 : Cond.instanceMethod ⟨"ExpressHouse$SchemaReader", "under", "(I)V"⟩ ∈ xBIG := xin_8 (List.mem_of_getElem? (i := 156) rfl) rfl
theorem xw_766 : Cond.selects "ExpressHouse$SchemaReader" ⟨"ExpressHouse$SchemaReader", "under", "(I)V"⟩ ⟨"ExpressHouse$SchemaReader", "under", "(I)V"⟩ ∈ xBIG := xin_0 (List.mem_of_getElem? (i := 90) rfl) rfl
theorem xw_767 : Cond.methodLink "ExpressHouse$SchemaReader" 221 ⟨"ExpressHouse$SchemaReader", "under", "(I)V"⟩ ∈ xBIG := xin_8 (List.mem_of_getElem? (i := 154) rfl) rfl
theorem xw_768 : Cond.fieldLink "ExpressHouse$SchemaReader" 224 "ExpressHouse$SchemaReader" "overSeen" "I" ∈ xBIG := xin_2 (List.mem_of_getElem? (i := 200) rfl) rfl
theorem xw_769 : Cond.instanceMethod ⟨"ExpressHouse$SchemaReader", "over", "(I)V"⟩ ∈ xBIG := xin_8 (List.mem_of_getElem? (i := 164) rfl) rfl
theorem xw_770 : Cond.selects "ExpressHouse$SchemaReader" ⟨"ExpressHouse$SchemaReader", "over", "(I)V"⟩ ⟨"ExpressHouse$SchemaReader", "over", "(I)V"⟩ ∈ xBIG := xin_0 (List.mem_of_getElem? (i := 92) rfl) rfl
theorem xw_771 : Cond.methodLink "ExpressHouse$SchemaReader" 227 ⟨"ExpressHouse$SchemaReader", "over", "(I)V"⟩ ∈ xBIG := xin_8 (List.mem_of_getElem? (i := 162) rfl) rfl
theorem xw_772 : Cond.instanceMethod ⟨"ExpressHouse$Expressions", "emit", "(II)V"⟩ ∈ xBIG := xin_8 (List.mem_of_getElem? (i := 29) rfl) rfl
theorem xw_773 : Cond.selects "ExpressHouse$Expressions" ⟨"ExpressHouse$Expressions", "emit", "(II)V"⟩ ⟨"ExpressHouse$Expressions", "emit", "(II)V"⟩ ∈ xBIG := xin_8 (List.mem_of_getElem? (i := 30) rfl) rfl
theorem xw_774 : Cond.methodLink "ExpressHouse$SchemaReader" 230 ⟨"ExpressHouse$Expressions", "emit", "(II)V"⟩ ∈ xBIG := xin_8 (List.mem_of_getElem? (i := 178) rfl) rfl
theorem xw_775 : Cond.instanceMethod ⟨"ExpressHouse$SchemaReader", "attributes", "(I)V"⟩ ∈ xBIG := xin_8 (List.mem_of_getElem? (i := 183) rfl) rfl
theorem xw_776 : Cond.selects "ExpressHouse$SchemaReader" ⟨"ExpressHouse$SchemaReader", "attributes", "(I)V"⟩ ⟨"ExpressHouse$SchemaReader", "attributes", "(I)V"⟩ ∈ xBIG := xin_0 (List.mem_of_getElem? (i := 96) rfl) rfl
theorem xw_777 : Cond.methodLink "ExpressHouse$SchemaReader" 232 ⟨"ExpressHouse$SchemaReader", "attributes", "(I)V"⟩ ∈ xBIG := xin_8 (List.mem_of_getElem? (i := 181) rfl) rfl
theorem xw_778 : Cond.instanceMethod ⟨"ExpressHouse$SchemaReader", "uniques", "(I)V"⟩ ∈ xBIG := xin_8 (List.mem_of_getElem? (i := 208) rfl) rfl
theorem xw_779 : Cond.selects "ExpressHouse$SchemaReader" ⟨"ExpressHouse$SchemaReader", "uniques", "(I)V"⟩ ⟨"ExpressHouse$SchemaReader", "uniques", "(I)V"⟩ ∈ xBIG := xin_0 (List.mem_of_getElem? (i := 102) rfl) rfl
theorem xw_780 : Cond.methodLink "ExpressHouse$SchemaReader" 235 ⟨"ExpressHouse$SchemaReader", "uniques", "(I)V"⟩ ∈ xBIG := xin_8 (List.mem_of_getElem? (i := 206) rfl) rfl
theorem xw_781 : Cond.fieldLink "ExpressHouse$SchemaReader" 212 "ExpressHouse$Schema" "wheres" "[I" ∈ xBIG := xin_1 (List.mem_of_getElem? (i := 204) rfl) rfl
theorem xw_782 : Cond.fieldLink "ExpressHouse$SchemaReader" 293 "ExpressHouse$Schema" "functions" "[[I" ∈ xBIG := xin_1 (List.mem_of_getElem? (i := 201) rfl) rfl
theorem xw_783 : Cond.instanceMethod ⟨"ExpressHouse$SchemaReader", "local", "([II)V"⟩ ∈ xBIG := xin_8 (List.mem_of_getElem? (i := 225) rfl) rfl
theorem xw_784 : Cond.selects "ExpressHouse$SchemaReader" ⟨"ExpressHouse$SchemaReader", "local", "([II)V"⟩ ⟨"ExpressHouse$SchemaReader", "local", "([II)V"⟩ ∈ xBIG := xin_0 (List.mem_of_getElem? (i := 106) rfl) rfl
theorem xw_785 : Cond.methodLink "ExpressHouse$SchemaReader" 296 ⟨"ExpressHouse$SchemaReader", "local", "([II)V"⟩ ∈ xBIG := xin_8 (List.mem_of_getElem? (i := 223) rfl) rfl
theorem xw_786 : Cond.fieldLink "ExpressHouse$SchemaReader" 299 "ExpressHouse$Expressions" "localCount" "I" ∈ xBIG := xin_2 (List.mem_of_getElem? (i := 156) rfl) rfl
theorem xw_787 : Cond.instanceMethod ⟨"ExpressHouse$SchemaReader", "kind", "()I"⟩ ∈ xBIG := xin_7 (List.mem_of_getElem? (i := 232) rfl) rfl
theorem xw_788 : Cond.selects "ExpressHouse$SchemaReader" ⟨"ExpressHouse$SchemaReader", "kind", "()I"⟩ ⟨"ExpressHouse$SchemaReader", "kind", "()I"⟩ ∈ xBIG := xin_0 (List.mem_of_getElem? (i := 67) rfl) rfl
theorem xw_789 : Cond.methodLink "ExpressHouse$SchemaReader" 166 ⟨"ExpressHouse$SchemaReader", "kind", "()I"⟩ ∈ xBIG := xin_7 (List.mem_of_getElem? (i := 230) rfl) rfl
theorem xw_790 : Cond.fieldLink "ExpressHouse$SchemaReader" 302 "ExpressHouse$SchemaReader" "loopExit" "I" ∈ xBIG := xin_2 (List.mem_of_getElem? (i := 201) rfl) rfl
theorem xw_791 : Cond.fieldLink "ExpressHouse$SchemaReader" 305 "ExpressHouse$SchemaReader" "loopNext" "I" ∈ xBIG := xin_2 (List.mem_of_getElem? (i := 202) rfl) rfl
theorem xw_792 : Cond.instanceMethod ⟨"ExpressHouse$SchemaReader", "statements", "([II)V"⟩ ∈ xBIG := xin_8 (List.mem_of_getElem? (i := 234) rfl) rfl
theorem xw_793 : Cond.selects "ExpressHouse$SchemaReader" ⟨"ExpressHouse$SchemaReader", "statements", "([II)V"⟩ ⟨"ExpressHouse$SchemaReader", "statements", "([II)V"⟩ ∈ xBIG := xin_0 (List.mem_of_getElem? (i := 107) rfl) rfl
theorem xw_794 : Cond.methodLink "ExpressHouse$SchemaReader" 308 ⟨"ExpressHouse$SchemaReader", "statements", "([II)V"⟩ ∈ xBIG := xin_8 (List.mem_of_getElem? (i := 232) rfl) rfl
theorem xw_795 : Cond.instanceMethod ⟨"ExpressHouse$Expressions", "emit", "(I)V"⟩ ∈ xBIG := xin_8 (List.mem_of_getElem? (i := 84) rfl) rfl
theorem xw_796 : Cond.selects "ExpressHouse$Expressions" ⟨"ExpressHouse$Expressions", "emit", "(I)V"⟩ ⟨"ExpressHouse$Expressions", "emit", "(I)V"⟩ ∈ xBIG := xin_8 (List.mem_of_getElem? (i := 85) rfl) rfl
theorem xw_797 : Cond.methodLink "ExpressHouse$SchemaReader" 209 ⟨"ExpressHouse$Expressions", "emit", "(I)V"⟩ ∈ xBIG := xin_8 (List.mem_of_getElem? (i := 145) rfl) rfl
theorem xw_798 : Cond.instanceMethod ⟨"ExpressHouse$Tokens", "refuse", "()V"⟩ ∈ xBIG := xin_8 (List.mem_of_getElem? (i := 128) rfl) rfl
theorem xw_799 : Cond.selects "ExpressHouse$Tokens" ⟨"ExpressHouse$Tokens", "refuse", "()V"⟩ ⟨"ExpressHouse$Tokens", "refuse", "()V"⟩ ∈ xBIG := xin_8 (List.mem_of_getElem? (i := 129) rfl) rfl
theorem xw_800 : Cond.methodLink "ExpressHouse$SchemaReader" 215 ⟨"ExpressHouse$Tokens", "refuse", "()V"⟩ ∈ xBIG := xin_9 (List.mem_of_getElem? (i := 39) rfl) rfl
theorem xw_801 : Cond.methodLink "ExpressHouse$Schema" 114 ⟨"ExpressHouse$Schema", "unionOf", "([[III)I"⟩ ∈ xBIG := xin_7 (List.mem_of_getElem? (i := 189) rfl) rfl
theorem xw_802 : Cond.static ⟨"ExpressHouse$Schema", "unionOf", "([[III)I"⟩ ∈ xBIG := xin_7 (List.mem_of_getElem? (i := 190) rfl) rfl
theorem xw_803 : Cond.instanceMethod ⟨"ExpressHouse$Schema", "acceptedThrough", "(I)I"⟩ ∈ xBIG := xin_9 (List.mem_of_getElem? (i := 46) rfl) rfl
theorem xw_804 : Cond.selects "ExpressHouse$Schema" ⟨"ExpressHouse$Schema", "acceptedThrough", "(I)I"⟩ ⟨"ExpressHouse$Schema", "acceptedThrough", "(I)I"⟩ ∈ xBIG := xin_0 (List.mem_of_getElem? (i := 117) rfl) rfl
theorem xw_805 : Cond.methodLink "ExpressHouse$Schema" 118 ⟨"ExpressHouse$Schema", "acceptedThrough", "(I)I"⟩ ∈ xBIG := xin_9 (List.mem_of_getElem? (i := 44) rfl) rfl
theorem xw_806 : Cond.instanceMethod ⟨"ExpressHouse$Schema", "endOf", "(I)I"⟩ ∈ xBIG := xin_9 (List.mem_of_getElem? (i := 51) rfl) rfl
theorem xw_807 : Cond.selects "ExpressHouse$Schema" ⟨"ExpressHouse$Schema", "endOf", "(I)I"⟩ ⟨"ExpressHouse$Schema", "endOf", "(I)I"⟩ ∈ xBIG := xin_0 (List.mem_of_getElem? (i := 118) rfl) rfl
theorem xw_808 : Cond.methodLink "ExpressHouse$Schema" 121 ⟨"ExpressHouse$Schema", "endOf", "(I)I"⟩ ∈ xBIG := xin_9 (List.mem_of_getElem? (i := 49) rfl) rfl
theorem xw_809 : Cond.instanceMethod ⟨"ExpressHouse$Schema", "accepts", "(I)I"⟩ ∈ xBIG := xin_7 (List.mem_of_getElem? (i := 222) rfl) rfl
theorem xw_810 : Cond.selects "ExpressHouse$Schema" ⟨"ExpressHouse$Schema", "accepts", "(I)I"⟩ ⟨"ExpressHouse$Schema", "accepts", "(I)I"⟩ ∈ xBIG := xin_7 (List.mem_of_getElem? (i := 223) rfl) rfl
theorem xw_811 : Cond.methodLink "ExpressHouse$Schema" 124 ⟨"ExpressHouse$Schema", "accepts", "(I)I"⟩ ∈ xBIG := xin_9 (List.mem_of_getElem? (i := 61) rfl) rfl
theorem xw_812 : Cond.instanceMethod ⟨"ExpressHouse$Schema", "isReal", "(I)Z"⟩ ∈ xBIG := xin_9 (List.mem_of_getElem? (i := 64) rfl) rfl
theorem xw_813 : Cond.selects "ExpressHouse$Schema" ⟨"ExpressHouse$Schema", "isReal", "(I)Z"⟩ ⟨"ExpressHouse$Schema", "isReal", "(I)Z"⟩ ∈ xBIG := xin_0 (List.mem_of_getElem? (i := 121) rfl) rfl
theorem xw_814 : Cond.methodLink "ExpressHouse$Schema" 127 ⟨"ExpressHouse$Schema", "isReal", "(I)Z"⟩ ∈ xBIG := xin_9 (List.mem_of_getElem? (i := 62) rfl) rfl
theorem xw_815 : Cond.instanceMethod ⟨"ExpressHouse$Schema", "kindCell", "(II)I"⟩ ∈ xBIG := xin_5 (List.mem_of_getElem? (i := 174) rfl) rfl
theorem xw_816 : Cond.selects "ExpressHouse$Schema" ⟨"ExpressHouse$Schema", "kindCell", "(II)I"⟩ ⟨"ExpressHouse$Schema", "kindCell", "(II)I"⟩ ∈ xBIG := xin_5 (List.mem_of_getElem? (i := 175) rfl) rfl
theorem xw_817 : Cond.methodLink "ExpressHouse$Schema" 130 ⟨"ExpressHouse$Schema", "kindCell", "(II)I"⟩ ∈ xBIG := xin_9 (List.mem_of_getElem? (i := 48) rfl) rfl
theorem xw_818 : Cond.instanceMethod ⟨"ExpressHouse$Schema", "isRefined", "(II)Z"⟩ ∈ xBIG := xin_4 (List.mem_of_getElem? (i := 41) rfl) rfl
theorem xw_819 : Cond.selects "ExpressHouse$Schema" ⟨"ExpressHouse$Schema", "isRefined", "(II)Z"⟩ ⟨"ExpressHouse$Schema", "isRefined", "(II)Z"⟩ ∈ xBIG := xin_0 (List.mem_of_getElem? (i := 3) rfl) rfl
theorem xw_820 : Cond.methodLink "ExpressHouse$Schema" 148 ⟨"ExpressHouse$Schema", "isRefined", "(II)Z"⟩ ∈ xBIG := xin_4 (List.mem_of_getElem? (i := 39) rfl) rfl
theorem xw_821 : Cond.instanceMethod ⟨"ExpressHouse$Schema", "overAllows", "(II)Z"⟩ ∈ xBIG := xin_4 (List.mem_of_getElem? (i := 45) rfl) rfl
theorem xw_822 : Cond.selects "ExpressHouse$Schema" ⟨"ExpressHouse$Schema", "overAllows", "(II)Z"⟩ ⟨"ExpressHouse$Schema", "overAllows", "(II)Z"⟩ ∈ xBIG := xin_0 (List.mem_of_getElem? (i := 4) rfl) rfl
theorem xw_823 : Cond.methodLink "ExpressHouse$Schema" 152 ⟨"ExpressHouse$Schema", "overAllows", "(II)Z"⟩ ∈ xBIG := xin_4 (List.mem_of_getElem? (i := 43) rfl) rfl
theorem xw_824 : Cond.fieldLink "ExpressHouse$Expressions" 59 "ExpressHouse$Schema" "codeEnd" "I" ∈ xBIG := xin_1 (List.mem_of_getElem? (i := 211) rfl) rfl
theorem xw_825 : Cond.instanceMethod ⟨"ExpressHouse$Expressions", "exp", "()V"⟩ ∈ xBIG := xin_8 (List.mem_of_getElem? (i := 14) rfl) rfl
theorem xw_826 : Cond.selects "ExpressHouse$Expressions" ⟨"ExpressHouse$Expressions", "exp", "()V"⟩ ⟨"ExpressHouse$Expressions", "exp", "()V"⟩ ∈ xBIG := xin_0 (List.mem_of_getElem? (i := 71) rfl) rfl
theorem xw_827 : Cond.methodLink "ExpressHouse$Expressions" 62 ⟨"ExpressHouse$Expressions", "exp", "()V"⟩ ∈ xBIG := xin_8 (List.mem_of_getElem? (i := 46) rfl) rfl
theorem xw_828 : Cond.methodLink "ExpressHouse$Expressions" 67 ⟨"ExpressHouse$Tokens", "expect", "(I)V"⟩ ∈ xBIG := xin_8 (List.mem_of_getElem? (i := 47) rfl) rfl
theorem xw_829 : Cond.methodLink "ExpressHouse$Expressions" 73 ⟨"ExpressHouse$Expressions", "emit", "(I)V"⟩ ∈ xBIG := xin_8 (List.mem_of_getElem? (i := 83) rfl) rfl
theorem xw_830 : Cond.instanceMethod ⟨"ExpressHouse$Population", "holdsAlike", "(II)Z"⟩ ∈ xBIG := xin_4 (List.mem_of_getElem? (i := 97) rfl) rfl
theorem xw_831 : Cond.selects "ExpressHouse$Population" ⟨"ExpressHouse$Population", "holdsAlike", "(II)Z"⟩ ⟨"ExpressHouse$Population", "holdsAlike", "(II)Z"⟩ ∈ xBIG := xin_0 (List.mem_of_getElem? (i := 8) rfl) rfl
theorem xw_832 : Cond.methodLink "ExpressHouse$Population" 133 ⟨"ExpressHouse$Population", "holdsAlike", "(II)Z"⟩ ∈ xBIG := xin_4 (List.mem_of_getElem? (i := 95) rfl) rfl
theorem xw_833 : Cond.fieldLink "ExpressHouse$Machine" 114 "ExpressHouse$Machine" "at" "I" ∈ xBIG := xin_3 (List.mem_of_getElem? (i := 22) rfl) rfl
theorem xw_834 : Cond.fieldLink "ExpressHouse$Machine" 105 "ExpressHouse$Population" "schema" "LExpressHouse$Schema;" ∈ xBIG := xin_2 (List.mem_of_getElem? (i := 92) rfl) rfl
theorem xw_835 : Cond.fieldLink "ExpressHouse$Machine" 109 "ExpressHouse$Schema" "code" "[I" ∈ xBIG := xin_1 (List.mem_of_getElem? (i := 208) rfl) rfl
theorem xw_836 : Cond.instanceMethod ⟨"ExpressHouse$Machine", "step", "(I)V"⟩ ∈ xBIG := xin_4 (List.mem_of_getElem? (i := 157) rfl) rfl
theorem xw_837 : Cond.selects "ExpressHouse$Machine" ⟨"ExpressHouse$Machine", "step", "(I)V"⟩ ⟨"ExpressHouse$Machine", "step", "(I)V"⟩ ∈ xBIG := xin_0 (List.mem_of_getElem? (i := 13) rfl) rfl
theorem xw_838 : Cond.methodLink "ExpressHouse$Machine" 141 ⟨"ExpressHouse$Machine", "step", "(I)V"⟩ ∈ xBIG := xin_4 (List.mem_of_getElem? (i := 155) rfl) rfl
theorem xw_839 : Cond.instanceMethod ⟨"ExpressHouse$Machine", "push", "(LExpressHouse$Value;)V"⟩ ∈ xBIG := xin_4 (List.mem_of_getElem? (i := 165) rfl) rfl
theorem xw_840 : Cond.selects "ExpressHouse$Machine" ⟨"ExpressHouse$Machine", "push", "(LExpressHouse$Value;)V"⟩ ⟨"ExpressHouse$Machine", "push", "(LExpressHouse$Value;)V"⟩ ∈ xBIG := xin_0 (List.mem_of_getElem? (i := 14) rfl) rfl
theorem xw_841 : Cond.methodLink "ExpressHouse$Machine" 138 ⟨"ExpressHouse$Machine", "push", "(LExpressHouse$Value;)V"⟩ ∈ xBIG := xin_4 (List.mem_of_getElem? (i := 163) rfl) rfl
theorem xw_842 : Cond.constantLong "ExpressHouse$Machine" 147 (Int64.ofNat 4294967295) ∈ xBIG := xin_4 (List.mem_of_getElem? (i := 167) rfl) rfl
theorem xw_843 : Cond.methodLink "ExpressHouse$Machine" 149 ⟨"ExpressHouse$Population", "exists", "(I)Z"⟩ ∈ xBIG := xin_4 (List.mem_of_getElem? (i := 168) rfl) rfl
theorem xw_844 : Cond.instanceMethod ⟨"ExpressHouse$Population", "extent", "(I)LExpressHouse$Value;"⟩ ∈ xBIG := xin_4 (List.mem_of_getElem? (i := 170) rfl) rfl
theorem xw_845 : Cond.selects "ExpressHouse$Population" ⟨"ExpressHouse$Population", "extent", "(I)LExpressHouse$Value;"⟩ ⟨"ExpressHouse$Population", "extent", "(I)LExpressHouse$Value;"⟩ ∈ xBIG := xin_4 (List.mem_of_getElem? (i := 171) rfl) rfl
theorem xw_846 : Cond.methodLink "ExpressHouse$Machine" 153 ⟨"ExpressHouse$Population", "extent", "(I)LExpressHouse$Value;"⟩ ∈ xBIG := xin_4 (List.mem_of_getElem? (i := 169) rfl) rfl
theorem xw_847 : Cond.instanceMethod ⟨"ExpressHouse$Machine", "slotAt", "(I)I"⟩ ∈ xBIG := xin_4 (List.mem_of_getElem? (i := 196) rfl) rfl
theorem xw_848 : Cond.selects "ExpressHouse$Machine" ⟨"ExpressHouse$Machine", "slotAt", "(I)I"⟩ ⟨"ExpressHouse$Machine", "slotAt", "(I)I"⟩ ∈ xBIG := xin_0 (List.mem_of_getElem? (i := 16) rfl) rfl
theorem xw_849 : Cond.methodLink "ExpressHouse$Machine" 157 ⟨"ExpressHouse$Machine", "slotAt", "(I)I"⟩ ∈ xBIG := xin_4 (List.mem_of_getElem? (i := 194) rfl) rfl
theorem xw_850 : Cond.instanceMethod ⟨"ExpressHouse$Machine", "access", "(I)V"⟩ ∈ xBIG := xin_4 (List.mem_of_getElem? (i := 204) rfl) rfl
theorem xw_851 : Cond.selects "ExpressHouse$Machine" ⟨"ExpressHouse$Machine", "access", "(I)V"⟩ ⟨"ExpressHouse$Machine", "access", "(I)V"⟩ ∈ xBIG := xin_0 (List.mem_of_getElem? (i := 18) rfl) rfl
theorem xw_852 : Cond.methodLink "ExpressHouse$Machine" 161 ⟨"ExpressHouse$Machine", "access", "(I)V"⟩ ∈ xBIG := xin_4 (List.mem_of_getElem? (i := 202) rfl) rfl
theorem xw_853 : Cond.instanceMethod ⟨"ExpressHouse$Machine", "list", "(I)V"⟩ ∈ xBIG := xin_4 (List.mem_of_getElem? (i := 221) rfl) rfl
theorem xw_854 : Cond.selects "ExpressHouse$Machine" ⟨"ExpressHouse$Machine", "list", "(I)V"⟩ ⟨"ExpressHouse$Machine", "list", "(I)V"⟩ ∈ xBIG := xin_0 (List.mem_of_getElem? (i := 20) rfl) rfl
theorem xw_855 : Cond.methodLink "ExpressHouse$Machine" 164 ⟨"ExpressHouse$Machine", "list", "(I)V"⟩ ∈ xBIG := xin_4 (List.mem_of_getElem? (i := 219) rfl) rfl
theorem xw_856 : Cond.instanceMethod ⟨"ExpressHouse$Operators", "negated", "(LExpressHouse$Value;)LExpressHouse$Value;"⟩ ∈ xBIG := xin_4 (List.mem_of_getElem? (i := 233) rfl) rfl
theorem xw_857 : Cond.selects "ExpressHouse$Operators" ⟨"ExpressHouse$Operators", "negated", "(LExpressHouse$Value;)LExpressHouse$Value;"⟩ ⟨"ExpressHouse$Operators", "negated", "(LExpressHouse$Value;)LExpressHouse$Value;"⟩ ∈ xBIG := xin_4 (List.mem_of_getElem? (i := 234) rfl) rfl
theorem xw_858 : Cond.methodLink "ExpressHouse$Machine" 167 ⟨"ExpressHouse$Operators", "negated", "(LExpressHouse$Value;)LExpressHouse$Value;"⟩ ∈ xBIG := xin_4 (List.mem_of_getElem? (i := 232) rfl) rfl
theorem xw_859 : Cond.instanceMethod ⟨"ExpressHouse$Operators", "inverted", "(LExpressHouse$Value;)LExpressHouse$Value;"⟩ ∈ xBIG := xin_5 (List.mem_of_getElem? (i := 9) rfl) rfl
theorem xw_860 : Cond.selects "ExpressHouse$Operators" ⟨"ExpressHouse$Operators", "inverted", "(LExpressHouse$Value;)LExpressHouse$Value;"⟩ ⟨"ExpressHouse$Operators", "inverted", "(LExpressHouse$Value;)LExpressHouse$Value;"⟩ ∈ xBIG := xin_5 (List.mem_of_getElem? (i := 10) rfl) rfl
theorem xw_861 : Cond.methodLink "ExpressHouse$Machine" 171 ⟨"ExpressHouse$Operators", "inverted", "(LExpressHouse$Value;)LExpressHouse$Value;"⟩ ∈ xBIG := xin_5 (List.mem_of_getElem? (i := 8) rfl) rfl
theorem xw_862 : Cond.instanceMethod ⟨"ExpressHouse$Operators", "builtIn", "(ILExpressHouse$Value;LExpressHouse$Value;)LExpressHouse$Value;"⟩ ∈ xBIG := xin_5 (List.mem_of_getElem? (i := 14) rfl) rfl
theorem xw_863 : Cond.selects "ExpressHouse$Operators" ⟨"ExpressHouse$Operators", "builtIn", "(ILExpressHouse$Value;LExpressHouse$Value;)LExpressHouse$Value;"⟩ ⟨"ExpressHouse$Operators", "builtIn", "(ILExpressHouse$Value;LExpressHouse$Value;)LExpressHouse$Value;"⟩ ∈ xBIG := xin_5 (List.mem_of_getElem? (i := 15) rfl) rfl
theorem xw_864 : Cond.methodLink "ExpressHouse$Machine" 174 ⟨"ExpressHouse$Operators", "builtIn", "(ILExpressHouse$Value;LExpressHouse$Value;)LExpressHouse$Value;"⟩ ∈ xBIG := xin_5 (List.mem_of_getElem? (i := 13) rfl) rfl
theorem xw_865 : Cond.instanceMethod ⟨"ExpressHouse$Operators", "placeOf", "(LExpressHouse$Value;LExpressHouse$Value;)LExpressHouse$Value;"⟩ ∈ xBIG := xin_5 (List.mem_of_getElem? (i := 93) rfl) rfl
theorem xw_866 : Cond.selects "ExpressHouse$Operators" ⟨"ExpressHouse$Operators", "placeOf", "(LExpressHouse$Value;LExpressHouse$Value;)LExpressHouse$Value;"⟩ ⟨"ExpressHouse$Operators", "placeOf", "(LExpressHouse$Value;LExpressHouse$Value;)LExpressHouse$Value;"⟩ ∈ xBIG := xin_5 (List.mem_of_getElem? (i := 94) rfl) rfl
theorem xw_867 : Cond.methodLink "ExpressHouse$Machine" 178 ⟨"ExpressHouse$Operators", "placeOf", "(LExpressHouse$Value;LExpressHouse$Value;)LExpressHouse$Value;"⟩ ∈ xBIG := xin_5 (List.mem_of_getElem? (i := 92) rfl) rfl
theorem xw_868 : Cond.instanceMethod ⟨"ExpressHouse$Operators", "logic", "(ILExpressHouse$Value;LExpressHouse$Value;)LExpressHouse$Value;"⟩ ∈ xBIG := xin_5 (List.mem_of_getElem? (i := 106) rfl) rfl
theorem xw_869 : Cond.selects "ExpressHouse$Operators" ⟨"ExpressHouse$Operators", "logic", "(ILExpressHouse$Value;LExpressHouse$Value;)LExpressHouse$Value;"⟩ ⟨"ExpressHouse$Operators", "logic", "(ILExpressHouse$Value;LExpressHouse$Value;)LExpressHouse$Value;"⟩ ∈ xBIG := xin_5 (List.mem_of_getElem? (i := 107) rfl) rfl
theorem xw_870 : Cond.methodLink "ExpressHouse$Machine" 182 ⟨"ExpressHouse$Operators", "logic", "(ILExpressHouse$Value;LExpressHouse$Value;)LExpressHouse$Value;"⟩ ∈ xBIG := xin_5 (List.mem_of_getElem? (i := 105) rfl) rfl
theorem xw_871 : Cond.instanceMethod ⟨"ExpressHouse$Operators", "compared", "(ILExpressHouse$Value;LExpressHouse$Value;)LExpressHouse$Value;"⟩ ∈ xBIG := xin_5 (List.mem_of_getElem? (i := 110) rfl) rfl
theorem xw_872 : Cond.selects "ExpressHouse$Operators" ⟨"ExpressHouse$Operators", "compared", "(ILExpressHouse$Value;LExpressHouse$Value;)LExpressHouse$Value;"⟩ ⟨"ExpressHouse$Operators", "compared", "(ILExpressHouse$Value;LExpressHouse$Value;)LExpressHouse$Value;"⟩ ∈ xBIG := xin_5 (List.mem_of_getElem? (i := 111) rfl) rfl
theorem xw_873 : Cond.methodLink "ExpressHouse$Machine" 185 ⟨"ExpressHouse$Operators", "compared", "(ILExpressHouse$Value;LExpressHouse$Value;)LExpressHouse$Value;"⟩ ∈ xBIG := xin_5 (List.mem_of_getElem? (i := 109) rfl) rfl
theorem xw_874 : Cond.fieldLink "ExpressHouse$Machine" 188 "ExpressHouse$Value" "kind" "I" ∈ xBIG := xin_2 (List.mem_of_getElem? (i := 37) rfl) rfl
theorem xw_875 : Cond.instanceMethod ⟨"ExpressHouse$Operators", "places", "(ILExpressHouse$Value;LExpressHouse$Value;)LExpressHouse$Value;"⟩ ∈ xBIG := xin_5 (List.mem_of_getElem? (i := 131) rfl) rfl
theorem xw_876 : Cond.selects "ExpressHouse$Operators" ⟨"ExpressHouse$Operators", "places", "(ILExpressHouse$Value;LExpressHouse$Value;)LExpressHouse$Value;"⟩ ⟨"ExpressHouse$Operators", "places", "(ILExpressHouse$Value;LExpressHouse$Value;)LExpressHouse$Value;"⟩ ∈ xBIG := xin_5 (List.mem_of_getElem? (i := 132) rfl) rfl
theorem xw_877 : Cond.methodLink "ExpressHouse$Machine" 191 ⟨"ExpressHouse$Operators", "places", "(ILExpressHouse$Value;LExpressHouse$Value;)LExpressHouse$Value;"⟩ ∈ xBIG := xin_5 (List.mem_of_getElem? (i := 130) rfl) rfl
theorem xw_878 : Cond.instanceMethod ⟨"ExpressHouse$Operators", "numbers", "(ILExpressHouse$Value;LExpressHouse$Value;)LExpressHouse$Value;"⟩ ∈ xBIG := xin_5 (List.mem_of_getElem? (i := 137) rfl) rfl
theorem xw_879 : Cond.selects "ExpressHouse$Operators" ⟨"ExpressHouse$Operators", "numbers", "(ILExpressHouse$Value;LExpressHouse$Value;)LExpressHouse$Value;"⟩ ⟨"ExpressHouse$Operators", "numbers", "(ILExpressHouse$Value;LExpressHouse$Value;)LExpressHouse$Value;"⟩ ∈ xBIG := xin_5 (List.mem_of_getElem? (i := 138) rfl) rfl
theorem xw_880 : Cond.methodLink "ExpressHouse$Machine" 194 ⟨"ExpressHouse$Operators", "numbers", "(ILExpressHouse$Value;LExpressHouse$Value;)LExpressHouse$Value;"⟩ ∈ xBIG := xin_5 (List.mem_of_getElem? (i := 136) rfl) rfl
theorem xw_881 : Cond.instanceMethod ⟨"ExpressHouse$Machine", "call", "(I)V"⟩ ∈ xBIG := xin_5 (List.mem_of_getElem? (i := 163) rfl) rfl
theorem xw_882 : Cond.selects "ExpressHouse$Machine" ⟨"ExpressHouse$Machine", "call", "(I)V"⟩ ⟨"ExpressHouse$Machine", "call", "(I)V"⟩ ∈ xBIG := xin_0 (List.mem_of_getElem? (i := 30) rfl) rfl
theorem xw_883 : Cond.methodLink "ExpressHouse$Machine" 231 ⟨"ExpressHouse$Machine", "call", "(I)V"⟩ ∈ xBIG := xin_5 (List.mem_of_getElem? (i := 161) rfl) rfl
theorem xw_884 : Cond.instanceMethod ⟨"ExpressHouse$Machine", "startQuery", "(II)V"⟩ ∈ xBIG := xin_5 (List.mem_of_getElem? (i := 188) rfl) rfl
theorem xw_885 : Cond.selects "ExpressHouse$Machine" ⟨"ExpressHouse$Machine", "startQuery", "(II)V"⟩ ⟨"ExpressHouse$Machine", "startQuery", "(II)V"⟩ ∈ xBIG := xin_0 (List.mem_of_getElem? (i := 31) rfl) rfl
theorem xw_886 : Cond.methodLink "ExpressHouse$Machine" 234 ⟨"ExpressHouse$Machine", "startQuery", "(II)V"⟩ ∈ xBIG := xin_5 (List.mem_of_getElem? (i := 186) rfl) rfl
theorem xw_887 : Cond.instanceMethod ⟨"ExpressHouse$Machine", "continueQuery", "(II)V"⟩ ∈ xBIG := xin_5 (List.mem_of_getElem? (i := 192) rfl) rfl
theorem xw_888 : Cond.selects "ExpressHouse$Machine" ⟨"ExpressHouse$Machine", "continueQuery", "(II)V"⟩ ⟨"ExpressHouse$Machine", "continueQuery", "(II)V"⟩ ∈ xBIG := xin_0 (List.mem_of_getElem? (i := 32) rfl) rfl
theorem xw_889 : Cond.methodLink "ExpressHouse$Machine" 238 ⟨"ExpressHouse$Machine", "continueQuery", "(II)V"⟩ ∈ xBIG := xin_5 (List.mem_of_getElem? (i := 190) rfl) rfl
theorem xw_890 : Cond.instanceMethod ⟨"ExpressHouse$Value", "isTrue", "()Z"⟩ ∈ xBIG := xin_5 (List.mem_of_getElem? (i := 206) rfl) rfl
theorem xw_891 : Cond.selects "ExpressHouse$Value" ⟨"ExpressHouse$Value", "isTrue", "()Z"⟩ ⟨"ExpressHouse$Value", "isTrue", "()Z"⟩ ∈ xBIG := xin_5 (List.mem_of_getElem? (i := 207) rfl) rfl
theorem xw_892 : Cond.methodLink "ExpressHouse$Machine" 241 ⟨"ExpressHouse$Value", "isTrue", "()Z"⟩ ∈ xBIG := xin_5 (List.mem_of_getElem? (i := 205) rfl) rfl
theorem xw_893 : Cond.instanceMethod ⟨"ExpressHouse$Machine", "store", "(II)V"⟩ ∈ xBIG := xin_5 (List.mem_of_getElem? (i := 212) rfl) rfl
theorem xw_894 : Cond.selects "ExpressHouse$Machine" ⟨"ExpressHouse$Machine", "store", "(II)V"⟩ ⟨"ExpressHouse$Machine", "store", "(II)V"⟩ ∈ xBIG := xin_0 (List.mem_of_getElem? (i := 33) rfl) rfl
theorem xw_895 : Cond.methodLink "ExpressHouse$Machine" 245 ⟨"ExpressHouse$Machine", "store", "(II)V"⟩ ∈ xBIG := xin_5 (List.mem_of_getElem? (i := 210) rfl) rfl
theorem xw_896 : Cond.instanceMethod ⟨"ExpressHouse$Machine", "storeAt", "(II)V"⟩ ∈ xBIG := xin_5 (List.mem_of_getElem? (i := 220) rfl) rfl
theorem xw_897 : Cond.selects "ExpressHouse$Machine" ⟨"ExpressHouse$Machine", "storeAt", "(II)V"⟩ ⟨"ExpressHouse$Machine", "storeAt", "(II)V"⟩ ∈ xBIG := xin_0 (List.mem_of_getElem? (i := 35) rfl) rfl
theorem xw_898 : Cond.methodLink "ExpressHouse$Machine" 248 ⟨"ExpressHouse$Machine", "storeAt", "(II)V"⟩ ∈ xBIG := xin_5 (List.mem_of_getElem? (i := 218) rfl) rfl
theorem xw_899 : Cond.instanceMethod ⟨"ExpressHouse$Machine", "closeFrame", "(LExpressHouse$Value;)V"⟩ ∈ xBIG := xin_5 (List.mem_of_getElem? (i := 233) rfl) rfl
theorem xw_900 : Cond.selects "ExpressHouse$Machine" ⟨"ExpressHouse$Machine", "closeFrame", "(LExpressHouse$Value;)V"⟩ ⟨"ExpressHouse$Machine", "closeFrame", "(LExpressHouse$Value;)V"⟩ ∈ xBIG := xin_0 (List.mem_of_getElem? (i := 36) rfl) rfl
theorem xw_901 : Cond.methodLink "ExpressHouse$Machine" 251 ⟨"ExpressHouse$Machine", "closeFrame", "(LExpressHouse$Value;)V"⟩ ∈ xBIG := xin_5 (List.mem_of_getElem? (i := 231) rfl) rfl
theorem xw_902 : Cond.instanceMethod ⟨"ExpressHouse$Machine", "endFrame", "(LExpressHouse$Value;)V"⟩ ∈ xBIG := xin_5 (List.mem_of_getElem? (i := 216) rfl) rfl
theorem xw_903 : Cond.selects "ExpressHouse$Machine" ⟨"ExpressHouse$Machine", "endFrame", "(LExpressHouse$Value;)V"⟩ ⟨"ExpressHouse$Machine", "endFrame", "(LExpressHouse$Value;)V"⟩ ∈ xBIG := xin_0 (List.mem_of_getElem? (i := 34) rfl) rfl
theorem xw_904 : Cond.methodLink "ExpressHouse$Machine" 134 ⟨"ExpressHouse$Machine", "endFrame", "(LExpressHouse$Value;)V"⟩ ∈ xBIG := xin_5 (List.mem_of_getElem? (i := 214) rfl) rfl
theorem xw_905 : Cond.instanceMethod ⟨"ExpressHouse$Machine", "repeat", "(II)V"⟩ ∈ xBIG := xin_5 (List.mem_of_getElem? (i := 237) rfl) rfl
theorem xw_906 : Cond.selects "ExpressHouse$Machine" ⟨"ExpressHouse$Machine", "repeat", "(II)V"⟩ ⟨"ExpressHouse$Machine", "repeat", "(II)V"⟩ ∈ xBIG := xin_0 (List.mem_of_getElem? (i := 37) rfl) rfl
theorem xw_907 : Cond.methodLink "ExpressHouse$Machine" 254 ⟨"ExpressHouse$Machine", "repeat", "(II)V"⟩ ∈ xBIG := xin_5 (List.mem_of_getElem? (i := 235) rfl) rfl
theorem xw_908 : Cond.methodLink "ExpressHouse$Population" 165 ⟨"ExpressHouse$Schema", "kindCell", "(II)I"⟩ ∈ xBIG := xin_5 (List.mem_of_getElem? (i := 173) rfl) rfl
theorem xw_909 : Cond.initialized "ExpressHouse$Reals" ∈ xBIG := xin_1 (List.mem_of_getElem? (i := 18) rfl) rfl
theorem xw_910 : Cond.methodLink "ExpressHouse$Population" 169 ⟨"ExpressHouse$Reals", "toBits", "(D)J"⟩ ∈ xBIG := xin_5 (List.mem_of_getElem? (i := 177) rfl) rfl
theorem xw_911 : Cond.static ⟨"ExpressHouse$Reals", "toBits", "(D)J"⟩ ∈ xBIG := xin_5 (List.mem_of_getElem? (i := 39) rfl) rfl
theorem xw_912 : Cond.methodLink "ExpressHouse$Population" 147 ⟨"ExpressHouse$Reals", "isWhole", "(JJ)Z"⟩ ∈ xBIG := xin_4 (List.mem_of_getElem? (i := 115) rfl) rfl
theorem xw_913 : Cond.static ⟨"ExpressHouse$Reals", "isWhole", "(JJ)Z"⟩ ∈ xBIG := xin_4 (List.mem_of_getElem? (i := 116) rfl) rfl
theorem xw_914 : Cond.methodLink "ExpressHouse$Population" 153 ⟨"ExpressHouse$Reals", "isNan", "(J)Z"⟩ ∈ xBIG := xin_4 (List.mem_of_getElem? (i := 121) rfl) rfl
theorem xw_915 : Cond.static ⟨"ExpressHouse$Reals", "isNan", "(J)Z"⟩ ∈ xBIG := xin_4 (List.mem_of_getElem? (i := 122) rfl) rfl
theorem xw_916 : Cond.constantLong "ExpressHouse$Population" 157 (Int64.ofNat 40) ∈ xBIG := xin_4 (List.mem_of_getElem? (i := 125) rfl) rfl
theorem xw_917 : Cond.methodLink "java/util/Arrays" 319 ⟨"[J", "clone", "()Ljava/lang/Object;"⟩ ∈ xBIG := xin_4 (List.mem_of_getElem? (i := 180) rfl) rfl
theorem xw_918 : Cond.sameMethod "[J" "java/lang/Object" "clone" "()Ljava/lang/Object;" ∈ xBIG := xin_4 (List.mem_of_getElem? (i := 181) rfl) rfl
theorem xw_919 : Cond.native ⟨"java/lang/Object", "clone", "()Ljava/lang/Object;"⟩ ∈ xBIG := xin_4 (List.mem_of_getElem? (i := 182) rfl) rfl
theorem xw_920 : Cond.instanceMethod ⟨"java/lang/Object", "clone", "()Ljava/lang/Object;"⟩ ∈ xBIG := xin_4 (List.mem_of_getElem? (i := 183) rfl) rfl
theorem xw_921 : Cond.selects "[J" ⟨"[J", "clone", "()Ljava/lang/Object;"⟩ ⟨"java/lang/Object", "clone", "()Ljava/lang/Object;"⟩ ∈ xBIG := xin_4 (List.mem_of_getElem? (i := 184) rfl) rfl
theorem xw_922 : Cond.classLink "java/util/Arrays" 320 "[J" ∈ xBIG := xin_4 (List.mem_of_getElem? (i := 186) rfl) rfl
theorem xw_923 : Cond.methodLink "java/util/Arrays" 304 ⟨"java/lang/Math", "min", "(II)I"⟩ ∈ xBIG := xin_4 (List.mem_of_getElem? (i := 187) rfl) rfl
theorem xw_924 : Cond.methodLink "java/util/Arrays" 150 ⟨"java/lang/System", "arraycopy", "(Ljava/lang/Object;ILjava/lang/Object;II)V"⟩ ∈ xBIG := xin_4 (List.mem_of_getElem? (i := 188) rfl) rfl
theorem xw_925 : Cond.fieldLink "ExpressHouse$Population" 177 "ExpressHouse$Schema" "itemTypes" "[I" ∈ xBIG := xin_1 (List.mem_of_getElem? (i := 174) rfl) rfl
theorem xw_926 : Cond.fieldLink "ExpressHouse$Population" 107 "ExpressHouse$Value" "holes" "I" ∈ xBIG := xin_2 (List.mem_of_getElem? (i := 65) rfl) rfl
theorem xw_927 : Cond.fieldLink "ExpressHouse$Judge" 69 "ExpressHouse$Schema" "attributes" "[[I" ∈ xBIG := xin_1 (List.mem_of_getElem? (i := 189) rfl) rfl
theorem xw_928 : Cond.instanceMethod ⟨"ExpressHouse$Population", "countUsers", "(II)I"⟩ ∈ xBIG := xin_6 (List.mem_of_getElem? (i := 47) rfl) rfl
theorem xw_929 : Cond.selects "ExpressHouse$Population" ⟨"ExpressHouse$Population", "countUsers", "(II)I"⟩ ⟨"ExpressHouse$Population", "countUsers", "(II)I"⟩ ∈ xBIG := xin_6 (List.mem_of_getElem? (i := 48) rfl) rfl
theorem xw_930 : Cond.methodLink "ExpressHouse$Judge" 73 ⟨"ExpressHouse$Population", "countUsers", "(II)I"⟩ ∈ xBIG := xin_6 (List.mem_of_getElem? (i := 46) rfl) rfl
theorem xw_931 : Cond.instanceMethod ⟨"ExpressHouse$Judge", "isWithin", "(II)Z"⟩ ∈ xBIG := xin_6 (List.mem_of_getElem? (i := 52) rfl) rfl
theorem xw_932 : Cond.selects "ExpressHouse$Judge" ⟨"ExpressHouse$Judge", "isWithin", "(II)Z"⟩ ⟨"ExpressHouse$Judge", "isWithin", "(II)Z"⟩ ∈ xBIG := xin_0 (List.mem_of_getElem? (i := 40) rfl) rfl
theorem xw_933 : Cond.methodLink "ExpressHouse$Judge" 76 ⟨"ExpressHouse$Judge", "isWithin", "(II)Z"⟩ ∈ xBIG := xin_6 (List.mem_of_getElem? (i := 50) rfl) rfl
theorem xw_934 : Cond.instanceMethod ⟨"ExpressHouse$Judge", "isHeldWithin", "(LExpressHouse$Value;[I)Z"⟩ ∈ xBIG := xin_6 (List.mem_of_getElem? (i := 58) rfl) rfl
theorem xw_935 : Cond.selects "ExpressHouse$Judge" ⟨"ExpressHouse$Judge", "isHeldWithin", "(LExpressHouse$Value;[I)Z"⟩ ⟨"ExpressHouse$Judge", "isHeldWithin", "(LExpressHouse$Value;[I)Z"⟩ ∈ xBIG := xin_0 (List.mem_of_getElem? (i := 41) rfl) rfl
theorem xw_936 : Cond.methodLink "ExpressHouse$Judge" 83 ⟨"ExpressHouse$Judge", "isHeldWithin", "(LExpressHouse$Value;[I)Z"⟩ ∈ xBIG := xin_6 (List.mem_of_getElem? (i := 56) rfl) rfl
theorem xw_937 : Cond.fieldLink "ExpressHouse$Judge" 105 "ExpressHouse$Schema" "entities" "[[I" ∈ xBIG := xin_1 (List.mem_of_getElem? (i := 179) rfl) rfl
theorem xw_938 : Cond.fieldLink "ExpressHouse$Judge" 108 "ExpressHouse$Schema" "uniques" "[J" ∈ xBIG := xin_1 (List.mem_of_getElem? (i := 184) rfl) rfl
theorem xw_939 : Cond.instanceMethod ⟨"ExpressHouse$Judge", "areAlike", "(IIJ)Z"⟩ ∈ xBIG := xin_6 (List.mem_of_getElem? (i := 80) rfl) rfl
theorem xw_940 : Cond.selects "ExpressHouse$Judge" ⟨"ExpressHouse$Judge", "areAlike", "(IIJ)Z"⟩ ⟨"ExpressHouse$Judge", "areAlike", "(IIJ)Z"⟩ ∈ xBIG := xin_0 (List.mem_of_getElem? (i := 44) rfl) rfl
theorem xw_941 : Cond.methodLink "ExpressHouse$Judge" 111 ⟨"ExpressHouse$Judge", "areAlike", "(IIJ)Z"⟩ ∈ xBIG := xin_6 (List.mem_of_getElem? (i := 78) rfl) rfl
theorem xw_942 : Cond.fieldLink "ExpressHouse$Judge" 152 "ExpressHouse$Machine" "spent" "Z" ∈ xBIG := xin_3 (List.mem_of_getElem? (i := 24) rfl) rfl
theorem xw_943 : Cond.fieldLink "ExpressHouse$Judge" 156 "ExpressHouse$Value" "bits" "J" ∈ xBIG := xin_2 (List.mem_of_getElem? (i := 46) rfl) rfl
theorem xw_944 : Cond.methodLink "ExpressHouse$Judge" 160 ⟨"ExpressHouse$Value", "isTrue", "()Z"⟩ ∈ xBIG := xin_6 (List.mem_of_getElem? (i := 98) rfl) rfl
theorem xw_945 : Cond.methodLink "ExpressHouse$Judge" 39 ⟨"ExpressHouse$Judge", "rank", "(I)I"⟩ ∈ xBIG := xin_6 (List.mem_of_getElem? (i := 67) rfl) rfl
theorem xw_946 : Cond.static ⟨"ExpressHouse$Judge", "rank", "(I)I"⟩ ∈ xBIG := xin_6 (List.mem_of_getElem? (i := 68) rfl) rfl
theorem xw_947 : Cond.instanceMethod ⟨"ExpressHouse$Schema", "isExplicit", "(I)Z"⟩ ∈ xBIG := xin_4 (List.mem_of_getElem? (i := 100) rfl) rfl
theorem xw_948 : Cond.selects "ExpressHouse$Schema" ⟨"ExpressHouse$Schema", "isExplicit", "(I)Z"⟩ ⟨"ExpressHouse$Schema", "isExplicit", "(I)Z"⟩ ∈ xBIG := xin_4 (List.mem_of_getElem? (i := 101) rfl) rfl
theorem xw_949 : Cond.methodLink "ExpressHouse$Judge" 144 ⟨"ExpressHouse$Schema", "isExplicit", "(I)Z"⟩ ∈ xBIG := xin_6 (List.mem_of_getElem? (i := 108) rfl) rfl
theorem xw_950 : Cond.methodLink "ExpressHouse$Judge" 99 ⟨"ExpressHouse$Schema", "kindCell", "(II)I"⟩ ∈ xBIG := xin_6 (List.mem_of_getElem? (i := 54) rfl) rfl
theorem xw_951 : Cond.constantLong "ExpressHouse$FileWriter" 119 (Int64.ofNat 10) ∈ xBIG := xin_6 (List.mem_of_getElem? (i := 138) rfl) rfl
theorem xw_952 : Cond.constantLong "ExpressHouse$FileWriter" 121 (Int64.ofNat 48) ∈ xBIG := xin_6 (List.mem_of_getElem? (i := 139) rfl) rfl
theorem xw_953 : Cond.fieldLink "ExpressHouse$FileWriter" 57 "ExpressHouse$Schema" "names" "[[J" ∈ xBIG := xin_1 (List.mem_of_getElem? (i := 166) rfl) rfl
theorem xw_954 : Cond.instanceMethod ⟨"ExpressHouse$FileWriter", "word", "(J)V"⟩ ∈ xBIG := xin_6 (List.mem_of_getElem? (i := 146) rfl) rfl
theorem xw_955 : Cond.selects "ExpressHouse$FileWriter" ⟨"ExpressHouse$FileWriter", "word", "(J)V"⟩ ⟨"ExpressHouse$FileWriter", "word", "(J)V"⟩ ∈ xBIG := xin_0 (List.mem_of_getElem? (i := 50) rfl) rfl
theorem xw_956 : Cond.methodLink "ExpressHouse$FileWriter" 61 ⟨"ExpressHouse$FileWriter", "word", "(J)V"⟩ ∈ xBIG := xin_6 (List.mem_of_getElem? (i := 144) rfl) rfl
theorem xw_957 : Cond.methodLink "ExpressHouse$FileWriter" 64 ⟨"ExpressHouse$Schema", "isExplicit", "(I)Z"⟩ ∈ xBIG := xin_6 (List.mem_of_getElem? (i := 155) rfl) rfl
theorem xw_958 : Cond.fieldLink "ExpressHouse$FileWriter" 68 "ExpressHouse$Schema" "attributes" "[[I" ∈ xBIG := xin_1 (List.mem_of_getElem? (i := 187) rfl) rfl
theorem xw_959 : Cond.methodLink "ExpressHouse$FileWriter" 71 ⟨"ExpressHouse$Population", "heldBy", "(II)LExpressHouse$Value;"⟩ ∈ xBIG := xin_6 (List.mem_of_getElem? (i := 156) rfl) rfl
theorem xw_960 : Cond.instanceMethod ⟨"ExpressHouse$FileWriter", "held", "(LExpressHouse$Value;)V"⟩ ∈ xBIG := xin_6 (List.mem_of_getElem? (i := 159) rfl) rfl
theorem xw_961 : Cond.selects "ExpressHouse$FileWriter" ⟨"ExpressHouse$FileWriter", "held", "(LExpressHouse$Value;)V"⟩ ⟨"ExpressHouse$FileWriter", "held", "(LExpressHouse$Value;)V"⟩ ∈ xBIG := xin_0 (List.mem_of_getElem? (i := 51) rfl) rfl
theorem xw_962 : Cond.methodLink "ExpressHouse$FileWriter" 75 ⟨"ExpressHouse$FileWriter", "held", "(LExpressHouse$Value;)V"⟩ ∈ xBIG := xin_6 (List.mem_of_getElem? (i := 157) rfl) rfl
theorem xw_963 : Cond.methodLink "ExpressHouse$Schema" 162 ⟨"ExpressHouse$Schema", "reason", "(I)I"⟩ ∈ xBIG := xin_4 (List.mem_of_getElem? (i := 66) rfl) rfl
theorem xw_964 : Cond.methodLink "ExpressHouse$FileReader" 104 ⟨"ExpressHouse$Tokens", "isBlank", "(I)Z"⟩ ∈ xBIG := xin_9 (List.mem_of_getElem? (i := 192) rfl) rfl
theorem xw_965 : Cond.instanceMethod ⟨"ExpressHouse$FileReader", "expect", "(I)V"⟩ ∈ xBIG := xin_9 (List.mem_of_getElem? (i := 207) rfl) rfl
theorem xw_966 : Cond.selects "ExpressHouse$FileReader" ⟨"ExpressHouse$FileReader", "expect", "(I)V"⟩ ⟨"ExpressHouse$FileReader", "expect", "(I)V"⟩ ∈ xBIG := xin_0 (List.mem_of_getElem? (i := 127) rfl) rfl
theorem xw_967 : Cond.methodLink "ExpressHouse$FileReader" 132 ⟨"ExpressHouse$FileReader", "expect", "(I)V"⟩ ∈ xBIG := xin_9 (List.mem_of_getElem? (i := 205) rfl) rfl
theorem xw_968 : Cond.methodLink "ExpressHouse$FileReader" 135 ⟨"ExpressHouse$Tokens", "isDigit", "(I)Z"⟩ ∈ xBIG := xin_9 (List.mem_of_getElem? (i := 213) rfl) rfl
theorem xw_969 : Cond.instanceMethod ⟨"ExpressHouse$FileReader", "fail", "(II)V"⟩ ∈ xBIG := xin_9 (List.mem_of_getElem? (i := 211) rfl) rfl
theorem xw_970 : Cond.selects "ExpressHouse$FileReader" ⟨"ExpressHouse$FileReader", "fail", "(II)V"⟩ ⟨"ExpressHouse$FileReader", "fail", "(II)V"⟩ ∈ xBIG := xin_0 (List.mem_of_getElem? (i := 128) rfl) rfl
theorem xw_971 : Cond.methodLink "ExpressHouse$FileReader" 110 ⟨"ExpressHouse$FileReader", "fail", "(II)V"⟩ ∈ xBIG := xin_9 (List.mem_of_getElem? (i := 209) rfl) rfl
theorem xw_972 : Cond.fieldLink "ExpressHouse$FileReader" 138 "ExpressHouse$Population" "schema" "LExpressHouse$Schema;" ∈ xBIG := xin_2 (List.mem_of_getElem? (i := 96) rfl) rfl
theorem xw_973 : Cond.methodLink "ExpressHouse$FileReader" 142 ⟨"ExpressHouse$Schema", "reason", "(I)I"⟩ ∈ xBIG := xin_9 (List.mem_of_getElem? (i := 218) rfl) rfl
theorem xw_974 : Cond.instanceMethod ⟨"ExpressHouse$FileReader", "entryOf", "(I)I"⟩ ∈ xBIG := xin_9 (List.mem_of_getElem? (i := 221) rfl) rfl
theorem xw_975 : Cond.selects "ExpressHouse$FileReader" ⟨"ExpressHouse$FileReader", "entryOf", "(I)I"⟩ ⟨"ExpressHouse$FileReader", "entryOf", "(I)I"⟩ ∈ xBIG := xin_0 (List.mem_of_getElem? (i := 130) rfl) rfl
theorem xw_976 : Cond.methodLink "ExpressHouse$FileReader" 148 ⟨"ExpressHouse$FileReader", "entryOf", "(I)I"⟩ ∈ xBIG := xin_9 (List.mem_of_getElem? (i := 219) rfl) rfl
theorem xw_977 : Cond.methodLink "ExpressHouse$FileReader" 151 ⟨"ExpressHouse$Population", "empty", "(I)V"⟩ ∈ xBIG := xin_9 (List.mem_of_getElem? (i := 223) rfl) rfl
theorem xw_978 : Cond.instanceMethod ⟨"ExpressHouse$FileReader", "word", "()J"⟩ ∈ xBIG := xin_9 (List.mem_of_getElem? (i := 238) rfl) rfl
theorem xw_979 : Cond.selects "ExpressHouse$FileReader" ⟨"ExpressHouse$FileReader", "word", "()J"⟩ ⟨"ExpressHouse$FileReader", "word", "()J"⟩ ∈ xBIG := xin_0 (List.mem_of_getElem? (i := 134) rfl) rfl
theorem xw_980 : Cond.methodLink "ExpressHouse$FileReader" 166 ⟨"ExpressHouse$FileReader", "word", "()J"⟩ ∈ xBIG := xin_9 (List.mem_of_getElem? (i := 236) rfl) rfl
theorem xw_981 : Cond.instanceMethod ⟨"ExpressHouse$Schema", "find", "(IJ)I"⟩ ∈ xBIG := xin_7 (List.mem_of_getElem? (i := 169) rfl) rfl
theorem xw_982 : Cond.selects "ExpressHouse$Schema" ⟨"ExpressHouse$Schema", "find", "(IJ)I"⟩ ⟨"ExpressHouse$Schema", "find", "(IJ)I"⟩ ∈ xBIG := xin_7 (List.mem_of_getElem? (i := 170) rfl) rfl
theorem xw_983 : Cond.methodLink "ExpressHouse$FileReader" 170 ⟨"ExpressHouse$Schema", "find", "(IJ)I"⟩ ∈ xBIG := xin_10 (List.mem_of_getElem? (i := 4) rfl) rfl
theorem xw_984 : Cond.fieldLink "ExpressHouse$FileReader" 174 "ExpressHouse$Schema" "entities" "[[I" ∈ xBIG := xin_1 (List.mem_of_getElem? (i := 181) rfl) rfl
theorem xw_985 : Cond.instanceMethod ⟨"ExpressHouse$Schema", "explicitFrom", "(II)I"⟩ ∈ xBIG := xin_10 (List.mem_of_getElem? (i := 6) rfl) rfl
theorem xw_986 : Cond.selects "ExpressHouse$Schema" ⟨"ExpressHouse$Schema", "explicitFrom", "(II)I"⟩ ⟨"ExpressHouse$Schema", "explicitFrom", "(II)I"⟩ ∈ xBIG := xin_10 (List.mem_of_getElem? (i := 7) rfl) rfl
theorem xw_987 : Cond.methodLink "ExpressHouse$FileReader" 178 ⟨"ExpressHouse$Schema", "explicitFrom", "(II)I"⟩ ∈ xBIG := xin_10 (List.mem_of_getElem? (i := 5) rfl) rfl
theorem xw_988 : Cond.instanceMethod ⟨"ExpressHouse$FileReader", "valuePart", "(I)V"⟩ ∈ xBIG := xin_10 (List.mem_of_getElem? (i := 11) rfl) rfl
theorem xw_989 : Cond.selects "ExpressHouse$FileReader" ⟨"ExpressHouse$FileReader", "valuePart", "(I)V"⟩ ⟨"ExpressHouse$FileReader", "valuePart", "(I)V"⟩ ∈ xBIG := xin_0 (List.mem_of_getElem? (i := 135) rfl) rfl
theorem xw_990 : Cond.methodLink "ExpressHouse$FileReader" 181 ⟨"ExpressHouse$FileReader", "valuePart", "(I)V"⟩ ∈ xBIG := xin_10 (List.mem_of_getElem? (i := 9) rfl) rfl
theorem xw_991 : Cond.instanceMethod ⟨"ExpressHouse$Tokens", "kindOfWord", "(J)I"⟩ ∈ xBIG := xin_7 (List.mem_of_getElem? (i := 82) rfl) rfl
theorem xw_992 : Cond.selects "ExpressHouse$Tokens" ⟨"ExpressHouse$Tokens", "kindOfWord", "(J)I"⟩ ⟨"ExpressHouse$Tokens", "kindOfWord", "(J)I"⟩ ∈ xBIG := xin_7 (List.mem_of_getElem? (i := 83) rfl) rfl
theorem xw_993 : Cond.methodLink "ExpressHouse$Tokens" 101 ⟨"ExpressHouse$Tokens", "kindOfWord", "(J)I"⟩ ∈ xBIG := xin_7 (List.mem_of_getElem? (i := 81) rfl) rfl
theorem xw_994 : Cond.constantLong "ExpressHouse$Tokens" 104 (Int64.ofNat 10) ∈ xBIG := xin_7 (List.mem_of_getElem? (i := 96) rfl) rfl
theorem xw_995 : Cond.constantLong "ExpressHouse$Tokens" 106 (Int64.ofNat 48) ∈ xBIG := xin_7 (List.mem_of_getElem? (i := 97) rfl) rfl
theorem xw_996 : Cond.methodLink "ExpressHouse$Tokens" 108 ⟨"ExpressHouse$Reals", "ofDecimal", "(JJ)J"⟩ ∈ xBIG := xin_7 (List.mem_of_getElem? (i := 98) rfl) rfl
theorem xw_997 : Cond.static ⟨"ExpressHouse$Reals", "ofDecimal", "(JJ)J"⟩ ∈ xBIG := xin_7 (List.mem_of_getElem? (i := 99) rfl) rfl
theorem xw_998 : Cond.fieldLink "ExpressHouse$Expressions" 44 "ExpressHouse$Expressions" "owner" "I" ∈ xBIG := xin_2 (List.mem_of_getElem? (i := 158) rfl) rfl
theorem xw_999 : Cond.fieldLink "ExpressHouse$Expressions" 47 "ExpressHouse$Expressions" "selfKnown" "Z" ∈ xBIG := xin_2 (List.mem_of_getElem? (i := 159) rfl) rfl
theorem xw_1000 : Cond.fieldLink "ExpressHouse$Expressions" 50 "ExpressHouse$Expressions" "hidings" "I" ∈ xBIG := xin_2 (List.mem_of_getElem? (i := 153) rfl) rfl
theorem xw_1001 : Cond.fieldLink "ExpressHouse$Expressions" 53 "ExpressHouse$Expressions" "localCount" "I" ∈ xBIG := xin_2 (List.mem_of_getElem? (i := 155) rfl) rfl
theorem xw_1002 : Cond.fieldLink "ExpressHouse$Expressions" 56 "ExpressHouse$Expressions" "slots" "I" ∈ xBIG := xin_2 (List.mem_of_getElem? (i := 157) rfl) rfl
theorem xw_1003 : Cond.methodLink "ExpressHouse$SchemaReader" 96 ⟨"ExpressHouse$Schema", "most", "(I)I"⟩ ∈ xBIG := xin_7 (List.mem_of_getElem? (i := 157) rfl) rfl
theorem xw_1004 : Cond.static ⟨"ExpressHouse$Schema", "most", "(I)I"⟩ ∈ xBIG := xin_7 (List.mem_of_getElem? (i := 158) rfl) rfl
theorem xw_1005 : Cond.fieldLink "ExpressHouse$SchemaReader" 104 "ExpressHouse$Tokens" "value" "J" ∈ xBIG := xin_1 (List.mem_of_getElem? (i := 105) rfl) rfl
theorem xw_1006 : Cond.instanceMethod ⟨"ExpressHouse$Schema", "isTaken", "(IJ)Z"⟩ ∈ xBIG := xin_7 (List.mem_of_getElem? (i := 165) rfl) rfl
theorem xw_1007 : Cond.selects "ExpressHouse$Schema" ⟨"ExpressHouse$Schema", "isTaken", "(IJ)Z"⟩ ⟨"ExpressHouse$Schema", "isTaken", "(IJ)Z"⟩ ∈ xBIG := xin_7 (List.mem_of_getElem? (i := 166) rfl) rfl
theorem xw_1008 : Cond.methodLink "ExpressHouse$SchemaReader" 108 ⟨"ExpressHouse$Schema", "isTaken", "(IJ)Z"⟩ ∈ xBIG := xin_7 (List.mem_of_getElem? (i := 164) rfl) rfl
theorem xw_1009 : Cond.instanceMethod ⟨"ExpressHouse$Tokens", "fail", "(I)V"⟩ ∈ xBIG := xin_7 (List.mem_of_getElem? (i := 177) rfl) rfl
theorem xw_1010 : Cond.selects "ExpressHouse$Tokens" ⟨"ExpressHouse$Tokens", "fail", "(I)V"⟩ ⟨"ExpressHouse$Tokens", "fail", "(I)V"⟩ ∈ xBIG := xin_7 (List.mem_of_getElem? (i := 178) rfl) rfl
theorem xw_1011 : Cond.methodLink "ExpressHouse$SchemaReader" 112 ⟨"ExpressHouse$Tokens", "fail", "(I)V"⟩ ∈ xBIG := xin_7 (List.mem_of_getElem? (i := 176) rfl) rfl
theorem xw_1012 : Cond.instanceMethod ⟨"ExpressHouse$Schema", "addName", "(IJ)V"⟩ ∈ xBIG := xin_7 (List.mem_of_getElem? (i := 181) rfl) rfl
theorem xw_1013 : Cond.selects "ExpressHouse$Schema" ⟨"ExpressHouse$Schema", "addName", "(IJ)V"⟩ ⟨"ExpressHouse$Schema", "addName", "(IJ)V"⟩ ∈ xBIG := xin_7 (List.mem_of_getElem? (i := 182) rfl) rfl
theorem xw_1014 : Cond.methodLink "ExpressHouse$SchemaReader" 115 ⟨"ExpressHouse$Schema", "addName", "(IJ)V"⟩ ∈ xBIG := xin_7 (List.mem_of_getElem? (i := 180) rfl) rfl
theorem xw_1015 : Cond.fieldLink "ExpressHouse$SchemaReader" 151 "ExpressHouse$Schema" "types" "[[I" ∈ xBIG := xin_1 (List.mem_of_getElem? (i := 176) rfl) rfl
theorem xw_1016 : Cond.fieldLink "ExpressHouse$SchemaReader" 155 "ExpressHouse$Schema" "itemTypes" "[I" ∈ xBIG := xin_1 (List.mem_of_getElem? (i := 173) rfl) rfl
theorem xw_1017 : Cond.instanceMethod ⟨"ExpressHouse$SchemaReader", "namedItem", "(Z)I"⟩ ∈ xBIG := xin_7 (List.mem_of_getElem? (i := 206) rfl) rfl
theorem xw_1018 : Cond.selects "ExpressHouse$SchemaReader" ⟨"ExpressHouse$SchemaReader", "namedItem", "(Z)I"⟩ ⟨"ExpressHouse$SchemaReader", "namedItem", "(Z)I"⟩ ∈ xBIG := xin_0 (List.mem_of_getElem? (i := 64) rfl) rfl
theorem xw_1019 : Cond.methodLink "ExpressHouse$SchemaReader" 158 ⟨"ExpressHouse$SchemaReader", "namedItem", "(Z)I"⟩ ∈ xBIG := xin_7 (List.mem_of_getElem? (i := 204) rfl) rfl
theorem xw_1020 : Cond.instanceMethod ⟨"ExpressHouse$SchemaReader", "see", "(IIZ)V"⟩ ∈ xBIG := xin_7 (List.mem_of_getElem? (i := 215) rfl) rfl
theorem xw_1021 : Cond.selects "ExpressHouse$SchemaReader" ⟨"ExpressHouse$SchemaReader", "see", "(IIZ)V"⟩ ⟨"ExpressHouse$SchemaReader", "see", "(IIZ)V"⟩ ∈ xBIG := xin_0 (List.mem_of_getElem? (i := 65) rfl) rfl
theorem xw_1022 : Cond.methodLink "ExpressHouse$SchemaReader" 162 ⟨"ExpressHouse$SchemaReader", "see", "(IIZ)V"⟩ ∈ xBIG := xin_7 (List.mem_of_getElem? (i := 213) rfl) rfl
theorem xw_1023 : Cond.methodLink "ExpressHouse$SchemaReader" 170 ⟨"ExpressHouse$Schema", "kindCell", "(II)I"⟩ ∈ xBIG := xin_8 (List.mem_of_getElem? (i := 3) rfl) rfl
theorem xw_1024 : Cond.methodLink "ExpressHouse$SchemaReader" 198 ⟨"ExpressHouse$Expressions", "startsExp", "(I)Z"⟩ ∈ xBIG := xin_8 (List.mem_of_getElem? (i := 9) rfl) rfl
theorem xw_1025 : Cond.static ⟨"ExpressHouse$Expressions", "startsExp", "(I)Z"⟩ ∈ xBIG := xin_8 (List.mem_of_getElem? (i := 10) rfl) rfl
theorem xw_1026 : Cond.fieldLink "ExpressHouse$SchemaReader" 201 "ExpressHouse$Schema" "whereStarts" "[I" ∈ xBIG := xin_1 (List.mem_of_getElem? (i := 206) rfl) rfl
theorem xw_1027 : Cond.methodLink "ExpressHouse$SchemaReader" 180 ⟨"ExpressHouse$Schema", "find", "(IJ)I"⟩ ∈ xBIG := xin_7 (List.mem_of_getElem? (i := 208) rfl) rfl
theorem xw_1028 : Cond.instanceMethod ⟨"ExpressHouse$SchemaReader", "misnamed", "()V"⟩ ∈ xBIG := xin_8 (List.mem_of_getElem? (i := 160) rfl) rfl
theorem xw_1029 : Cond.selects "ExpressHouse$SchemaReader" ⟨"ExpressHouse$SchemaReader", "misnamed", "()V"⟩ ⟨"ExpressHouse$SchemaReader", "misnamed", "()V"⟩ ∈ xBIG := xin_0 (List.mem_of_getElem? (i := 91) rfl) rfl
theorem xw_1030 : Cond.methodLink "ExpressHouse$SchemaReader" 238 ⟨"ExpressHouse$SchemaReader", "misnamed", "()V"⟩ ∈ xBIG := xin_8 (List.mem_of_getElem? (i := 158) rfl) rfl
theorem xw_1031 : Cond.instanceMethod ⟨"ExpressHouse$SchemaReader", "bothOver", "(I)V"⟩ ∈ xBIG := xin_8 (List.mem_of_getElem? (i := 168) rfl) rfl
theorem xw_1032 : Cond.selects "ExpressHouse$SchemaReader" ⟨"ExpressHouse$SchemaReader", "bothOver", "(I)V"⟩ ⟨"ExpressHouse$SchemaReader", "bothOver", "(I)V"⟩ ∈ xBIG := xin_0 (List.mem_of_getElem? (i := 93) rfl) rfl
theorem xw_1033 : Cond.methodLink "ExpressHouse$SchemaReader" 241 ⟨"ExpressHouse$SchemaReader", "bothOver", "(I)V"⟩ ∈ xBIG := xin_8 (List.mem_of_getElem? (i := 166) rfl) rfl
theorem xw_1034 : Cond.fieldLink "ExpressHouse$Expressions" 76 "ExpressHouse$Schema" "code" "[I" ∈ xBIG := xin_1 (List.mem_of_getElem? (i := 209) rfl) rfl
theorem xw_1035 : Cond.instanceMethod ⟨"ExpressHouse$SchemaReader", "explicit", "(I)V"⟩ ∈ xBIG := xin_8 (List.mem_of_getElem? (i := 187) rfl) rfl
theorem xw_1036 : Cond.selects "ExpressHouse$SchemaReader" ⟨"ExpressHouse$SchemaReader", "explicit", "(I)V"⟩ ⟨"ExpressHouse$SchemaReader", "explicit", "(I)V"⟩ ∈ xBIG := xin_0 (List.mem_of_getElem? (i := 97) rfl) rfl
theorem xw_1037 : Cond.methodLink "ExpressHouse$SchemaReader" 256 ⟨"ExpressHouse$SchemaReader", "explicit", "(I)V"⟩ ∈ xBIG := xin_8 (List.mem_of_getElem? (i := 185) rfl) rfl
theorem xw_1038 : Cond.instanceMethod ⟨"ExpressHouse$SchemaReader", "derived", "(I)V"⟩ ∈ xBIG := xin_8 (List.mem_of_getElem? (i := 195) rfl) rfl
theorem xw_1039 : Cond.selects "ExpressHouse$SchemaReader" ⟨"ExpressHouse$SchemaReader", "derived", "(I)V"⟩ ⟨"ExpressHouse$SchemaReader", "derived", "(I)V"⟩ ∈ xBIG := xin_0 (List.mem_of_getElem? (i := 99) rfl) rfl
theorem xw_1040 : Cond.methodLink "ExpressHouse$SchemaReader" 259 ⟨"ExpressHouse$SchemaReader", "derived", "(I)V"⟩ ∈ xBIG := xin_8 (List.mem_of_getElem? (i := 193) rfl) rfl
theorem xw_1041 : Cond.instanceMethod ⟨"ExpressHouse$SchemaReader", "inverse", "(I)V"⟩ ∈ xBIG := xin_8 (List.mem_of_getElem? (i := 199) rfl) rfl
theorem xw_1042 : Cond.selects "ExpressHouse$SchemaReader" ⟨"ExpressHouse$SchemaReader", "inverse", "(I)V"⟩ ⟨"ExpressHouse$SchemaReader", "inverse", "(I)V"⟩ ∈ xBIG := xin_0 (List.mem_of_getElem? (i := 100) rfl) rfl
theorem xw_1043 : Cond.methodLink "ExpressHouse$SchemaReader" 262 ⟨"ExpressHouse$SchemaReader", "inverse", "(I)V"⟩ ∈ xBIG := xin_8 (List.mem_of_getElem? (i := 197) rfl) rfl
theorem xw_1044 : Cond.fieldLink "ExpressHouse$SchemaReader" 279 "ExpressHouse$Schema" "uniques" "[J" ∈ xBIG := xin_1 (List.mem_of_getElem? (i := 185) rfl) rfl
theorem xw_1045 : Cond.instanceMethod ⟨"ExpressHouse$SchemaReader", "uniqueList", "(I)J"⟩ ∈ xBIG := xin_8 (List.mem_of_getElem? (i := 212) rfl) rfl
theorem xw_1046 : Cond.selects "ExpressHouse$SchemaReader" ⟨"ExpressHouse$SchemaReader", "uniqueList", "(I)J"⟩ ⟨"ExpressHouse$SchemaReader", "uniqueList", "(I)J"⟩ ∈ xBIG := xin_0 (List.mem_of_getElem? (i := 103) rfl) rfl
theorem xw_1047 : Cond.methodLink "ExpressHouse$SchemaReader" 282 ⟨"ExpressHouse$SchemaReader", "uniqueList", "(I)J"⟩ ∈ xBIG := xin_8 (List.mem_of_getElem? (i := 210) rfl) rfl
theorem xw_1048 : Cond.instanceMethod ⟨"ExpressHouse$Expressions", "findLocal", "(J)I"⟩ ∈ xBIG := xin_8 (List.mem_of_getElem? (i := 115) rfl) rfl
theorem xw_1049 : Cond.selects "ExpressHouse$Expressions" ⟨"ExpressHouse$Expressions", "findLocal", "(J)I"⟩ ⟨"ExpressHouse$Expressions", "findLocal", "(J)I"⟩ ∈ xBIG := xin_8 (List.mem_of_getElem? (i := 116) rfl) rfl
theorem xw_1050 : Cond.methodLink "ExpressHouse$SchemaReader" 311 ⟨"ExpressHouse$Expressions", "findLocal", "(J)I"⟩ ∈ xBIG := xin_8 (List.mem_of_getElem? (i := 227) rfl) rfl
theorem xw_1051 : Cond.instanceMethod ⟨"ExpressHouse$Expressions", "addLocal", "(J)V"⟩ ∈ xBIG := xin_8 (List.mem_of_getElem? (i := 229) rfl) rfl
theorem xw_1052 : Cond.selects "ExpressHouse$Expressions" ⟨"ExpressHouse$Expressions", "addLocal", "(J)V"⟩ ⟨"ExpressHouse$Expressions", "addLocal", "(J)V"⟩ ∈ xBIG := xin_8 (List.mem_of_getElem? (i := 230) rfl) rfl
theorem xw_1053 : Cond.methodLink "ExpressHouse$SchemaReader" 315 ⟨"ExpressHouse$Expressions", "addLocal", "(J)V"⟩ ∈ xBIG := xin_8 (List.mem_of_getElem? (i := 228) rfl) rfl
theorem xw_1054 : Cond.instanceMethod ⟨"ExpressHouse$SchemaReader", "newKind", "(I)I"⟩ ∈ xBIG := xin_7 (List.mem_of_getElem? (i := 236) rfl) rfl
theorem xw_1055 : Cond.selects "ExpressHouse$SchemaReader" ⟨"ExpressHouse$SchemaReader", "newKind", "(I)I"⟩ ⟨"ExpressHouse$SchemaReader", "newKind", "(I)I"⟩ ∈ xBIG := xin_0 (List.mem_of_getElem? (i := 68) rfl) rfl
theorem xw_1056 : Cond.methodLink "ExpressHouse$SchemaReader" 187 ⟨"ExpressHouse$SchemaReader", "newKind", "(I)I"⟩ ∈ xBIG := xin_7 (List.mem_of_getElem? (i := 234) rfl) rfl
theorem xw_1057 : Cond.fieldLink "ExpressHouse$SchemaReader" 190 "ExpressHouse$Schema" "kinds" "[[I" ∈ xBIG := xin_1 (List.mem_of_getElem? (i := 196) rfl) rfl
theorem xw_1058 : Cond.instanceMethod ⟨"ExpressHouse$SchemaReader", "bounds", "(I)V"⟩ ∈ xBIG := xin_8 (List.mem_of_getElem? (i := 0) rfl) rfl
theorem xw_1059 : Cond.selects "ExpressHouse$SchemaReader" ⟨"ExpressHouse$SchemaReader", "bounds", "(I)V"⟩ ⟨"ExpressHouse$SchemaReader", "bounds", "(I)V"⟩ ∈ xBIG := xin_0 (List.mem_of_getElem? (i := 69) rfl) rfl
theorem xw_1060 : Cond.methodLink "ExpressHouse$SchemaReader" 193 ⟨"ExpressHouse$SchemaReader", "bounds", "(I)V"⟩ ∈ xBIG := xin_7 (List.mem_of_getElem? (i := 238) rfl) rfl
theorem xw_1061 : Cond.methodLink "ExpressHouse$SchemaReader" 319 ⟨"ExpressHouse$SchemaReader", "startsStatement", "(I)Z"⟩ ∈ xBIG := xin_8 (List.mem_of_getElem? (i := 236) rfl) rfl
theorem xw_1062 : Cond.static ⟨"ExpressHouse$SchemaReader", "startsStatement", "(I)Z"⟩ ∈ xBIG := xin_8 (List.mem_of_getElem? (i := 237) rfl) rfl
theorem xw_1063 : Cond.instanceMethod ⟨"ExpressHouse$SchemaReader", "statement", "([II)V"⟩ ∈ xBIG := xin_9 (List.mem_of_getElem? (i := 1) rfl) rfl
theorem xw_1064 : Cond.selects "ExpressHouse$SchemaReader" ⟨"ExpressHouse$SchemaReader", "statement", "([II)V"⟩ ⟨"ExpressHouse$SchemaReader", "statement", "([II)V"⟩ ∈ xBIG := xin_0 (List.mem_of_getElem? (i := 108) rfl) rfl
theorem xw_1065 : Cond.methodLink "ExpressHouse$SchemaReader" 322 ⟨"ExpressHouse$SchemaReader", "statement", "([II)V"⟩ ∈ xBIG := xin_8 (List.mem_of_getElem? (i := 239) rfl) rfl
theorem xw_1066 : Cond.methodLink "ExpressHouse$Tokens" 139 ⟨"ExpressHouse$Tokens", "fail", "(I)V"⟩ ∈ xBIG := xin_8 (List.mem_of_getElem? (i := 44) rfl) rfl
theorem xw_1067 : Cond.instanceMethod ⟨"ExpressHouse$Schema", "goesOn", "(I)Z"⟩ ∈ xBIG := xin_9 (List.mem_of_getElem? (i := 55) rfl) rfl
theorem xw_1068 : Cond.selects "ExpressHouse$Schema" ⟨"ExpressHouse$Schema", "goesOn", "(I)Z"⟩ ⟨"ExpressHouse$Schema", "goesOn", "(I)Z"⟩ ∈ xBIG := xin_0 (List.mem_of_getElem? (i := 119) rfl) rfl
theorem xw_1069 : Cond.methodLink "ExpressHouse$Schema" 134 ⟨"ExpressHouse$Schema", "goesOn", "(I)Z"⟩ ∈ xBIG := xin_9 (List.mem_of_getElem? (i := 53) rfl) rfl
theorem xw_1070 : Cond.instanceMethod ⟨"ExpressHouse$Schema", "isType", "(I)Z"⟩ ∈ xBIG := xin_7 (List.mem_of_getElem? (i := 218) rfl) rfl
theorem xw_1071 : Cond.selects "ExpressHouse$Schema" ⟨"ExpressHouse$Schema", "isType", "(I)Z"⟩ ⟨"ExpressHouse$Schema", "isType", "(I)Z"⟩ ∈ xBIG := xin_7 (List.mem_of_getElem? (i := 219) rfl) rfl
theorem xw_1072 : Cond.methodLink "ExpressHouse$Schema" 110 ⟨"ExpressHouse$Schema", "isType", "(I)Z"⟩ ∈ xBIG := xin_7 (List.mem_of_getElem? (i := 225) rfl) rfl
theorem xw_1073 : Cond.instanceMethod ⟨"ExpressHouse$Schema", "isKindType", "(I)Z"⟩ ∈ xBIG := xin_9 (List.mem_of_getElem? (i := 59) rfl) rfl
theorem xw_1074 : Cond.selects "ExpressHouse$Schema" ⟨"ExpressHouse$Schema", "isKindType", "(I)Z"⟩ ⟨"ExpressHouse$Schema", "isKindType", "(I)Z"⟩ ∈ xBIG := xin_0 (List.mem_of_getElem? (i := 120) rfl) rfl
theorem xw_1075 : Cond.methodLink "ExpressHouse$Schema" 137 ⟨"ExpressHouse$Schema", "isKindType", "(I)Z"⟩ ∈ xBIG := xin_9 (List.mem_of_getElem? (i := 57) rfl) rfl
theorem xw_1076 : Cond.instanceMethod ⟨"ExpressHouse$Schema", "joinOver", "(III)I"⟩ ∈ xBIG := xin_4 (List.mem_of_getElem? (i := 49) rfl) rfl
theorem xw_1077 : Cond.selects "ExpressHouse$Schema" ⟨"ExpressHouse$Schema", "joinOver", "(III)I"⟩ ⟨"ExpressHouse$Schema", "joinOver", "(III)I"⟩ ∈ xBIG := xin_0 (List.mem_of_getElem? (i := 5) rfl) rfl
theorem xw_1078 : Cond.methodLink "ExpressHouse$Schema" 155 ⟨"ExpressHouse$Schema", "joinOver", "(III)I"⟩ ∈ xBIG := xin_4 (List.mem_of_getElem? (i := 47) rfl) rfl
theorem xw_1079 : Cond.instanceMethod ⟨"ExpressHouse$Expressions", "sum", "()V"⟩ ∈ xBIG := xin_8 (List.mem_of_getElem? (i := 18) rfl) rfl
theorem xw_1080 : Cond.selects "ExpressHouse$Expressions" ⟨"ExpressHouse$Expressions", "sum", "()V"⟩ ⟨"ExpressHouse$Expressions", "sum", "()V"⟩ ∈ xBIG := xin_0 (List.mem_of_getElem? (i := 72) rfl) rfl
theorem xw_1081 : Cond.methodLink "ExpressHouse$Expressions" 92 ⟨"ExpressHouse$Expressions", "sum", "()V"⟩ ∈ xBIG := xin_8 (List.mem_of_getElem? (i := 16) rfl) rfl
theorem xw_1082 : Cond.fieldLink "ExpressHouse$Expressions" 95 "ExpressHouse$Tokens" "current" "I" ∈ xBIG := xin_1 (List.mem_of_getElem? (i := 100) rfl) rfl
theorem xw_1083 : Cond.instanceMethod ⟨"ExpressHouse$Expressions", "operator", "(I)V"⟩ ∈ xBIG := xin_8 (List.mem_of_getElem? (i := 54) rfl) rfl
theorem xw_1084 : Cond.selects "ExpressHouse$Expressions" ⟨"ExpressHouse$Expressions", "operator", "(I)V"⟩ ⟨"ExpressHouse$Expressions", "operator", "(I)V"⟩ ∈ xBIG := xin_0 (List.mem_of_getElem? (i := 77) rfl) rfl
theorem xw_1085 : Cond.methodLink "ExpressHouse$Expressions" 98 ⟨"ExpressHouse$Expressions", "operator", "(I)V"⟩ ∈ xBIG := xin_8 (List.mem_of_getElem? (i := 52) rfl) rfl
theorem xw_1086 : Cond.methodLink "ExpressHouse$Expressions" 101 ⟨"ExpressHouse$Expressions", "emit", "(II)V"⟩ ∈ xBIG := xin_8 (List.mem_of_getElem? (i := 28) rfl) rfl
theorem xw_1087 : Cond.methodLink "ExpressHouse$Population" 136 ⟨"ExpressHouse$Schema", "isExplicit", "(I)Z"⟩ ∈ xBIG := xin_4 (List.mem_of_getElem? (i := 99) rfl) rfl
theorem xw_1088 : Cond.instanceMethod ⟨"ExpressHouse$Population", "alike", "(LExpressHouse$Value;LExpressHouse$Value;)Z"⟩ ∈ xBIG := xin_4 (List.mem_of_getElem? (i := 108) rfl) rfl
theorem xw_1089 : Cond.selects "ExpressHouse$Population" ⟨"ExpressHouse$Population", "alike", "(LExpressHouse$Value;LExpressHouse$Value;)Z"⟩ ⟨"ExpressHouse$Population", "alike", "(LExpressHouse$Value;LExpressHouse$Value;)Z"⟩ ∈ xBIG := xin_4 (List.mem_of_getElem? (i := 109) rfl) rfl
theorem xw_1090 : Cond.methodLink "ExpressHouse$Population" 139 ⟨"ExpressHouse$Population", "alike", "(LExpressHouse$Value;LExpressHouse$Value;)Z"⟩ ∈ xBIG := xin_4 (List.mem_of_getElem? (i := 107) rfl) rfl
theorem xw_1091 : Cond.fieldLink "ExpressHouse$Machine" 117 "ExpressHouse$Machine" "madeInAll" "I" ∈ xBIG := xin_3 (List.mem_of_getElem? (i := 29) rfl) rfl
theorem xw_1092 : Cond.methodLink "ExpressHouse$Machine" 120 ⟨"java/lang/Math", "min", "(II)I"⟩ ∈ xBIG := xin_4 (List.mem_of_getElem? (i := 159) rfl) rfl
theorem xw_1093 : Cond.instanceMethod ⟨"ExpressHouse$Population", "instances", "(I[JI)LExpressHouse$Value;"⟩ ∈ xBIG := xin_4 (List.mem_of_getElem? (i := 175) rfl) rfl
theorem xw_1094 : Cond.selects "ExpressHouse$Population" ⟨"ExpressHouse$Population", "instances", "(I[JI)LExpressHouse$Value;"⟩ ⟨"ExpressHouse$Population", "instances", "(I[JI)LExpressHouse$Value;"⟩ ∈ xBIG := xin_0 (List.mem_of_getElem? (i := 15) rfl) rfl
theorem xw_1095 : Cond.methodLink "ExpressHouse$Population" 125 ⟨"ExpressHouse$Population", "instances", "(I[JI)LExpressHouse$Value;"⟩ ∈ xBIG := xin_4 (List.mem_of_getElem? (i := 173) rfl) rfl
theorem xw_1096 : Cond.fieldLink "ExpressHouse$Machine" 197 "ExpressHouse$Value" "bits" "J" ∈ xBIG := xin_2 (List.mem_of_getElem? (i := 44) rfl) rfl
theorem xw_1097 : Cond.methodLink "ExpressHouse$Machine" 201 ⟨"ExpressHouse$Population", "has", "(II)Z"⟩ ∈ xBIG := xin_4 (List.mem_of_getElem? (i := 210) rfl) rfl
theorem xw_1098 : Cond.fieldLink "ExpressHouse$Machine" 205 "ExpressHouse$Schema" "attributes" "[[I" ∈ xBIG := xin_1 (List.mem_of_getElem? (i := 190) rfl) rfl
theorem xw_1099 : Cond.methodLink "ExpressHouse$Machine" 209 ⟨"ExpressHouse$Population", "heldBy", "(II)LExpressHouse$Value;"⟩ ∈ xBIG := xin_4 (List.mem_of_getElem? (i := 211) rfl) rfl
theorem xw_1100 : Cond.instanceMethod ⟨"ExpressHouse$Population", "users", "(II)LExpressHouse$Value;"⟩ ∈ xBIG := xin_4 (List.mem_of_getElem? (i := 213) rfl) rfl
theorem xw_1101 : Cond.selects "ExpressHouse$Population" ⟨"ExpressHouse$Population", "users", "(II)LExpressHouse$Value;"⟩ ⟨"ExpressHouse$Population", "users", "(II)LExpressHouse$Value;"⟩ ∈ xBIG := xin_4 (List.mem_of_getElem? (i := 214) rfl) rfl
theorem xw_1102 : Cond.methodLink "ExpressHouse$Machine" 213 ⟨"ExpressHouse$Population", "users", "(II)LExpressHouse$Value;"⟩ ∈ xBIG := xin_4 (List.mem_of_getElem? (i := 212) rfl) rfl
theorem xw_1103 : Cond.instanceMethod ⟨"ExpressHouse$Machine", "below", "(I)LExpressHouse$Value;"⟩ ∈ xBIG := xin_4 (List.mem_of_getElem? (i := 225) rfl) rfl
theorem xw_1104 : Cond.selects "ExpressHouse$Machine" ⟨"ExpressHouse$Machine", "below", "(I)LExpressHouse$Value;"⟩ ⟨"ExpressHouse$Machine", "below", "(I)LExpressHouse$Value;"⟩ ∈ xBIG := xin_0 (List.mem_of_getElem? (i := 21) rfl) rfl
theorem xw_1105 : Cond.methodLink "ExpressHouse$Machine" 216 ⟨"ExpressHouse$Machine", "below", "(I)LExpressHouse$Value;"⟩ ∈ xBIG := xin_4 (List.mem_of_getElem? (i := 223) rfl) rfl
theorem xw_1106 : Cond.methodLink "ExpressHouse$Machine" 219 ⟨"java/lang/Math", "max", "(II)I"⟩ ∈ xBIG := xin_4 (List.mem_of_getElem? (i := 227) rfl) rfl
theorem xw_1107 : Cond.static ⟨"java/lang/Math", "max", "(II)I"⟩ ∈ xBIG := xin_4 (List.mem_of_getElem? (i := 228) rfl) rfl
theorem xw_1108 : Cond.code ⟨"java/lang/Math", "max", "(II)I"⟩ prog_41_method_65_code 2 (some .int) ∈ xBIG := xin_4 (List.mem_of_getElem? (i := 229) rfl) rfl
theorem xw_1109 : Cond.methodLink "ExpressHouse$Machine" 222 ⟨"java/util/Arrays", "copyOf", "([JI)[J"⟩ ∈ xBIG := xin_4 (List.mem_of_getElem? (i := 230) rfl) rfl
theorem xw_1110 : Cond.fieldLink "ExpressHouse$Operators" 33 "ExpressHouse$Value" "kind" "I" ∈ xBIG := xin_2 (List.mem_of_getElem? (i := 33) rfl) rfl
theorem xw_1111 : Cond.fieldLink "ExpressHouse$Operators" 39 "ExpressHouse$Value" "bits" "J" ∈ xBIG := xin_2 (List.mem_of_getElem? (i := 41) rfl) rfl
theorem xw_1112 : Cond.instanceMethod ⟨"ExpressHouse$Operators", "integer", "(J)LExpressHouse$Value;"⟩ ∈ xBIG := xin_4 (List.mem_of_getElem? (i := 237) rfl) rfl
theorem xw_1113 : Cond.selects "ExpressHouse$Operators" ⟨"ExpressHouse$Operators", "integer", "(J)LExpressHouse$Value;"⟩ ⟨"ExpressHouse$Operators", "integer", "(J)LExpressHouse$Value;"⟩ ∈ xBIG := xin_4 (List.mem_of_getElem? (i := 238) rfl) rfl
theorem xw_1114 : Cond.methodLink "ExpressHouse$Operators" 113 ⟨"ExpressHouse$Operators", "integer", "(J)LExpressHouse$Value;"⟩ ∈ xBIG := xin_4 (List.mem_of_getElem? (i := 236) rfl) rfl
theorem xw_1115 : Cond.classLink "ExpressHouse$Operators" 7 "ExpressHouse$Value" ∈ xBIG := xin_5 (List.mem_of_getElem? (i := 0) rfl) rfl
theorem xw_1116 : Cond.methodLink "ExpressHouse$Operators" 57 ⟨"ExpressHouse$Reals", "negative", "(J)J"⟩ ∈ xBIG := xin_5 (List.mem_of_getElem? (i := 2) rfl) rfl
theorem xw_1117 : Cond.static ⟨"ExpressHouse$Reals", "negative", "(J)J"⟩ ∈ xBIG := xin_5 (List.mem_of_getElem? (i := 3) rfl) rfl
theorem xw_1118 : Cond.constantLong "ExpressHouse$Operators" 99 (Int64.ofNat 2) ∈ xBIG := xin_5 (List.mem_of_getElem? (i := 12) rfl) rfl
theorem xw_1119 : Cond.methodLink "ExpressHouse$Operators" 176 ⟨"ExpressHouse$Reals", "size", "(J)J"⟩ ∈ xBIG := xin_5 (List.mem_of_getElem? (i := 20) rfl) rfl
theorem xw_1120 : Cond.static ⟨"ExpressHouse$Reals", "size", "(J)J"⟩ ∈ xBIG := xin_5 (List.mem_of_getElem? (i := 21) rfl) rfl
theorem xw_1121 : Cond.instanceMethod ⟨"ExpressHouse$Operators", "realOf", "(LExpressHouse$Value;J)LExpressHouse$Value;"⟩ ∈ xBIG := xin_5 (List.mem_of_getElem? (i := 25) rfl) rfl
theorem xw_1122 : Cond.selects "ExpressHouse$Operators" ⟨"ExpressHouse$Operators", "realOf", "(LExpressHouse$Value;J)LExpressHouse$Value;"⟩ ⟨"ExpressHouse$Operators", "realOf", "(LExpressHouse$Value;J)LExpressHouse$Value;"⟩ ∈ xBIG := xin_0 (List.mem_of_getElem? (i := 22) rfl) rfl
theorem xw_1123 : Cond.methodLink "ExpressHouse$Operators" 179 ⟨"ExpressHouse$Operators", "realOf", "(LExpressHouse$Value;J)LExpressHouse$Value;"⟩ ∈ xBIG := xin_5 (List.mem_of_getElem? (i := 23) rfl) rfl
theorem xw_1124 : Cond.instanceMethod ⟨"ExpressHouse$Operators", "rounded", "(LExpressHouse$Value;I)LExpressHouse$Value;"⟩ ∈ xBIG := xin_5 (List.mem_of_getElem? (i := 29) rfl) rfl
theorem xw_1125 : Cond.selects "ExpressHouse$Operators" ⟨"ExpressHouse$Operators", "rounded", "(LExpressHouse$Value;I)LExpressHouse$Value;"⟩ ⟨"ExpressHouse$Operators", "rounded", "(LExpressHouse$Value;I)LExpressHouse$Value;"⟩ ∈ xBIG := xin_0 (List.mem_of_getElem? (i := 23) rfl) rfl
theorem xw_1126 : Cond.methodLink "ExpressHouse$Operators" 183 ⟨"ExpressHouse$Operators", "rounded", "(LExpressHouse$Value;I)LExpressHouse$Value;"⟩ ∈ xBIG := xin_5 (List.mem_of_getElem? (i := 27) rfl) rfl
theorem xw_1127 : Cond.methodLink "ExpressHouse$Operators" 192 ⟨"ExpressHouse$Reals", "signOf", "(J)J"⟩ ∈ xBIG := xin_5 (List.mem_of_getElem? (i := 58) rfl) rfl
theorem xw_1128 : Cond.static ⟨"ExpressHouse$Reals", "signOf", "(J)J"⟩ ∈ xBIG := xin_5 (List.mem_of_getElem? (i := 59) rfl) rfl
theorem xw_1129 : Cond.fieldLink "ExpressHouse$Operators" 75 "ExpressHouse$Value" "cells" "[J" ∈ xBIG := xin_2 (List.mem_of_getElem? (i := 68) rfl) rfl
theorem xw_1130 : Cond.instanceMethod ⟨"ExpressHouse$Operators", "measure", "(LExpressHouse$Value;I)LExpressHouse$Value;"⟩ ∈ xBIG := xin_5 (List.mem_of_getElem? (i := 67) rfl) rfl
theorem xw_1131 : Cond.selects "ExpressHouse$Operators" ⟨"ExpressHouse$Operators", "measure", "(LExpressHouse$Value;I)LExpressHouse$Value;"⟩ ⟨"ExpressHouse$Operators", "measure", "(LExpressHouse$Value;I)LExpressHouse$Value;"⟩ ∈ xBIG := xin_0 (List.mem_of_getElem? (i := 24) rfl) rfl
theorem xw_1132 : Cond.methodLink "ExpressHouse$Operators" 195 ⟨"ExpressHouse$Operators", "measure", "(LExpressHouse$Value;I)LExpressHouse$Value;"⟩ ∈ xBIG := xin_5 (List.mem_of_getElem? (i := 65) rfl) rfl
theorem xw_1133 : Cond.fieldLink "ExpressHouse$Operators" 143 "ExpressHouse$Value" "low" "I" ∈ xBIG := xin_2 (List.mem_of_getElem? (i := 55) rfl) rfl
theorem xw_1134 : Cond.methodLink "ExpressHouse$Operators" 109 ⟨"ExpressHouse$Operators", "truth", "(Z)LExpressHouse$Value;"⟩ ∈ xBIG := xin_5 (List.mem_of_getElem? (i := 69) rfl) rfl
theorem xw_1135 : Cond.static ⟨"ExpressHouse$Operators", "truth", "(Z)LExpressHouse$Value;"⟩ ∈ xBIG := xin_5 (List.mem_of_getElem? (i := 70) rfl) rfl
theorem xw_1136 : Cond.instanceMethod ⟨"ExpressHouse$Population", "allUsers", "(I)LExpressHouse$Value;"⟩ ∈ xBIG := xin_5 (List.mem_of_getElem? (i := 73) rfl) rfl
theorem xw_1137 : Cond.selects "ExpressHouse$Population" ⟨"ExpressHouse$Population", "allUsers", "(I)LExpressHouse$Value;"⟩ ⟨"ExpressHouse$Population", "allUsers", "(I)LExpressHouse$Value;"⟩ ∈ xBIG := xin_5 (List.mem_of_getElem? (i := 74) rfl) rfl
theorem xw_1138 : Cond.methodLink "ExpressHouse$Operators" 198 ⟨"ExpressHouse$Population", "allUsers", "(I)LExpressHouse$Value;"⟩ ∈ xBIG := xin_5 (List.mem_of_getElem? (i := 72) rfl) rfl
theorem xw_1139 : Cond.instanceMethod ⟨"ExpressHouse$Operators", "ofNumbers", "(ILExpressHouse$Value;LExpressHouse$Value;)LExpressHouse$Value;"⟩ ∈ xBIG := xin_5 (List.mem_of_getElem? (i := 78) rfl) rfl
theorem xw_1140 : Cond.selects "ExpressHouse$Operators" ⟨"ExpressHouse$Operators", "ofNumbers", "(ILExpressHouse$Value;LExpressHouse$Value;)LExpressHouse$Value;"⟩ ⟨"ExpressHouse$Operators", "ofNumbers", "(ILExpressHouse$Value;LExpressHouse$Value;)LExpressHouse$Value;"⟩ ∈ xBIG := xin_0 (List.mem_of_getElem? (i := 25) rfl) rfl
theorem xw_1141 : Cond.methodLink "ExpressHouse$Operators" 202 ⟨"ExpressHouse$Operators", "ofNumbers", "(ILExpressHouse$Value;LExpressHouse$Value;)LExpressHouse$Value;"⟩ ∈ xBIG := xin_5 (List.mem_of_getElem? (i := 76) rfl) rfl
theorem xw_1142 : Cond.instanceMethod ⟨"ExpressHouse$Value", "kindAt", "(I)I"⟩ ∈ xBIG := xin_5 (List.mem_of_getElem? (i := 97) rfl) rfl
theorem xw_1143 : Cond.selects "ExpressHouse$Value" ⟨"ExpressHouse$Value", "kindAt", "(I)I"⟩ ⟨"ExpressHouse$Value", "kindAt", "(I)I"⟩ ∈ xBIG := xin_5 (List.mem_of_getElem? (i := 98) rfl) rfl
theorem xw_1144 : Cond.methodLink "ExpressHouse$Operators" 146 ⟨"ExpressHouse$Value", "kindAt", "(I)I"⟩ ∈ xBIG := xin_5 (List.mem_of_getElem? (i := 96) rfl) rfl
theorem xw_1145 : Cond.instanceMethod ⟨"ExpressHouse$Value", "bitsAt", "(I)J"⟩ ∈ xBIG := xin_5 (List.mem_of_getElem? (i := 102) rfl) rfl
theorem xw_1146 : Cond.selects "ExpressHouse$Value" ⟨"ExpressHouse$Value", "bitsAt", "(I)J"⟩ ⟨"ExpressHouse$Value", "bitsAt", "(I)J"⟩ ∈ xBIG := xin_5 (List.mem_of_getElem? (i := 103) rfl) rfl
theorem xw_1147 : Cond.methodLink "ExpressHouse$Operators" 149 ⟨"ExpressHouse$Value", "bitsAt", "(I)J"⟩ ∈ xBIG := xin_5 (List.mem_of_getElem? (i := 101) rfl) rfl
theorem xw_1148 : Cond.instanceMethod ⟨"ExpressHouse$Operators", "isIn", "(IJLExpressHouse$Value;)Z"⟩ ∈ xBIG := xin_5 (List.mem_of_getElem? (i := 115) rfl) rfl
theorem xw_1149 : Cond.selects "ExpressHouse$Operators" ⟨"ExpressHouse$Operators", "isIn", "(IJLExpressHouse$Value;)Z"⟩ ⟨"ExpressHouse$Operators", "isIn", "(IJLExpressHouse$Value;)Z"⟩ ∈ xBIG := xin_0 (List.mem_of_getElem? (i := 26) rfl) rfl
theorem xw_1150 : Cond.methodLink "ExpressHouse$Operators" 78 ⟨"ExpressHouse$Operators", "isIn", "(IJLExpressHouse$Value;)Z"⟩ ∈ xBIG := xin_5 (List.mem_of_getElem? (i := 113) rfl) rfl
theorem xw_1151 : Cond.instanceMethod ⟨"ExpressHouse$Value", "isNumber", "()Z"⟩ ∈ xBIG := xin_5 (List.mem_of_getElem? (i := 32) rfl) rfl
theorem xw_1152 : Cond.selects "ExpressHouse$Value" ⟨"ExpressHouse$Value", "isNumber", "()Z"⟩ ⟨"ExpressHouse$Value", "isNumber", "()Z"⟩ ∈ xBIG := xin_5 (List.mem_of_getElem? (i := 33) rfl) rfl
theorem xw_1153 : Cond.methodLink "ExpressHouse$Operators" 29 ⟨"ExpressHouse$Value", "isNumber", "()Z"⟩ ∈ xBIG := xin_5 (List.mem_of_getElem? (i := 31) rfl) rfl
theorem xw_1154 : Cond.instanceMethod ⟨"ExpressHouse$Operators", "ordered", "(ILExpressHouse$Value;LExpressHouse$Value;)LExpressHouse$Value;"⟩ ∈ xBIG := xin_5 (List.mem_of_getElem? (i := 121) rfl) rfl
theorem xw_1155 : Cond.selects "ExpressHouse$Operators" ⟨"ExpressHouse$Operators", "ordered", "(ILExpressHouse$Value;LExpressHouse$Value;)LExpressHouse$Value;"⟩ ⟨"ExpressHouse$Operators", "ordered", "(ILExpressHouse$Value;LExpressHouse$Value;)LExpressHouse$Value;"⟩ ∈ xBIG := xin_0 (List.mem_of_getElem? (i := 27) rfl) rfl
theorem xw_1156 : Cond.methodLink "ExpressHouse$Operators" 117 ⟨"ExpressHouse$Operators", "ordered", "(ILExpressHouse$Value;LExpressHouse$Value;)LExpressHouse$Value;"⟩ ∈ xBIG := xin_5 (List.mem_of_getElem? (i := 119) rfl) rfl
theorem xw_1157 : Cond.methodLink "ExpressHouse$Operators" 121 ⟨"ExpressHouse$Population", "alike", "(LExpressHouse$Value;LExpressHouse$Value;)Z"⟩ ∈ xBIG := xin_5 (List.mem_of_getElem? (i := 129) rfl) rfl
theorem xw_1158 : Cond.fieldLink "ExpressHouse$Operators" 69 "ExpressHouse$Value" "sort" "I" ∈ xBIG := xin_2 (List.mem_of_getElem? (i := 49) rfl) rfl
theorem xw_1159 : Cond.fieldLink "ExpressHouse$Operators" 72 "ExpressHouse$Value" "lane" "I" ∈ xBIG := xin_2 (List.mem_of_getElem? (i := 59) rfl) rfl
theorem xw_1160 : Cond.methodLink "ExpressHouse$Operators" 82 ⟨"java/util/Arrays", "copyOf", "([JI)[J"⟩ ∈ xBIG := xin_5 (List.mem_of_getElem? (i := 134) rfl) rfl
theorem xw_1161 : Cond.instanceMethod ⟨"ExpressHouse$Operators", "wholes", "(IJJ)LExpressHouse$Value;"⟩ ∈ xBIG := xin_5 (List.mem_of_getElem? (i := 142) rfl) rfl
theorem xw_1162 : Cond.selects "ExpressHouse$Operators" ⟨"ExpressHouse$Operators", "wholes", "(IJJ)LExpressHouse$Value;"⟩ ⟨"ExpressHouse$Operators", "wholes", "(IJJ)LExpressHouse$Value;"⟩ ∈ xBIG := xin_0 (List.mem_of_getElem? (i := 28) rfl) rfl
theorem xw_1163 : Cond.methodLink "ExpressHouse$Operators" 43 ⟨"ExpressHouse$Operators", "wholes", "(IJJ)LExpressHouse$Value;"⟩ ∈ xBIG := xin_5 (List.mem_of_getElem? (i := 140) rfl) rfl
theorem xw_1164 : Cond.methodLink "ExpressHouse$Operators" 47 ⟨"ExpressHouse$Reals", "of", "(LExpressHouse$Value;)J"⟩ ∈ xBIG := xin_5 (List.mem_of_getElem? (i := 35) rfl) rfl
theorem xw_1165 : Cond.static ⟨"ExpressHouse$Reals", "of", "(LExpressHouse$Value;)J"⟩ ∈ xBIG := xin_5 (List.mem_of_getElem? (i := 36) rfl) rfl
theorem xw_1166 : Cond.methodLink "ExpressHouse$Operators" 53 ⟨"ExpressHouse$Reals", "plus", "(JJ)J"⟩ ∈ xBIG := xin_5 (List.mem_of_getElem? (i := 145) rfl) rfl
theorem xw_1167 : Cond.static ⟨"ExpressHouse$Reals", "plus", "(JJ)J"⟩ ∈ xBIG := xin_5 (List.mem_of_getElem? (i := 146) rfl) rfl
theorem xw_1168 : Cond.methodLink "ExpressHouse$Operators" 61 ⟨"ExpressHouse$Reals", "times", "(JJ)J"⟩ ∈ xBIG := xin_5 (List.mem_of_getElem? (i := 151) rfl) rfl
theorem xw_1169 : Cond.static ⟨"ExpressHouse$Reals", "times", "(JJ)J"⟩ ∈ xBIG := xin_5 (List.mem_of_getElem? (i := 152) rfl) rfl
theorem xw_1170 : Cond.methodLink "ExpressHouse$Operators" 64 ⟨"ExpressHouse$Reals", "over", "(JJ)J"⟩ ∈ xBIG := xin_5 (List.mem_of_getElem? (i := 154) rfl) rfl
theorem xw_1171 : Cond.static ⟨"ExpressHouse$Reals", "over", "(JJ)J"⟩ ∈ xBIG := xin_5 (List.mem_of_getElem? (i := 155) rfl) rfl
theorem xw_1172 : Cond.fieldLink "ExpressHouse$Machine" 257 "ExpressHouse$Schema" "functions" "[[I" ∈ xBIG := xin_1 (List.mem_of_getElem? (i := 199) rfl) rfl
theorem xw_1173 : Cond.methodLink "ExpressHouse$Machine" 126 ⟨"ExpressHouse$Population", "converted", "(LExpressHouse$Value;I)LExpressHouse$Value;"⟩ ∈ xBIG := xin_5 (List.mem_of_getElem? (i := 165) rfl) rfl
theorem xw_1174 : Cond.methodLink "ExpressHouse$Machine" 130 ⟨"ExpressHouse$Population", "fits", "(LExpressHouse$Value;I)Z"⟩ ∈ xBIG := xin_5 (List.mem_of_getElem? (i := 178) rfl) rfl
theorem xw_1175 : Cond.instanceMethod ⟨"ExpressHouse$Value", "filledFrom", "(I)I"⟩ ∈ xBIG := xin_5 (List.mem_of_getElem? (i := 195) rfl) rfl
theorem xw_1176 : Cond.selects "ExpressHouse$Value" ⟨"ExpressHouse$Value", "filledFrom", "(I)I"⟩ ⟨"ExpressHouse$Value", "filledFrom", "(I)I"⟩ ∈ xBIG := xin_5 (List.mem_of_getElem? (i := 196) rfl) rfl
theorem xw_1177 : Cond.methodLink "ExpressHouse$Machine" 260 ⟨"ExpressHouse$Value", "filledFrom", "(I)I"⟩ ∈ xBIG := xin_5 (List.mem_of_getElem? (i := 194) rfl) rfl
theorem xw_1178 : Cond.fieldLink "ExpressHouse$Machine" 263 "ExpressHouse$Value" "cells" "[J" ∈ xBIG := xin_2 (List.mem_of_getElem? (i := 72) rfl) rfl
theorem xw_1179 : Cond.fieldLink "ExpressHouse$Machine" 267 "ExpressHouse$Value" "lane" "I" ∈ xBIG := xin_2 (List.mem_of_getElem? (i := 61) rfl) rfl
theorem xw_1180 : Cond.fieldLink "ExpressHouse$Machine" 275 "ExpressHouse$Value" "sort" "I" ∈ xBIG := xin_2 (List.mem_of_getElem? (i := 52) rfl) rfl
theorem xw_1181 : Cond.constantLong "ExpressHouse$Value" 36 (Int64.ofNat 2) ∈ xBIG := xin_5 (List.mem_of_getElem? (i := 209) rfl) rfl
theorem xw_1182 : Cond.instanceMethod ⟨"ExpressHouse$Operators", "withPlace", "(LExpressHouse$Value;LExpressHouse$Value;LExpressHouse$Value;I)LExpressHouse$Value;"⟩ ∈ xBIG := xin_5 (List.mem_of_getElem? (i := 223) rfl) rfl
theorem xw_1183 : Cond.selects "ExpressHouse$Operators" ⟨"ExpressHouse$Operators", "withPlace", "(LExpressHouse$Value;LExpressHouse$Value;LExpressHouse$Value;I)LExpressHouse$Value;"⟩ ⟨"ExpressHouse$Operators", "withPlace", "(LExpressHouse$Value;LExpressHouse$Value;LExpressHouse$Value;I)LExpressHouse$Value;"⟩ ∈ xBIG := xin_5 (List.mem_of_getElem? (i := 224) rfl) rfl
theorem xw_1184 : Cond.methodLink "ExpressHouse$Machine" 278 ⟨"ExpressHouse$Operators", "withPlace", "(LExpressHouse$Value;LExpressHouse$Value;LExpressHouse$Value;I)LExpressHouse$Value;"⟩ ∈ xBIG := xin_5 (List.mem_of_getElem? (i := 222) rfl) rfl
theorem xw_1185 : Cond.instanceMethod ⟨"ExpressHouse$Machine", "startRepeat", "(I)V"⟩ ∈ xBIG := xin_6 (List.mem_of_getElem? (i := 1) rfl) rfl
theorem xw_1186 : Cond.selects "ExpressHouse$Machine" ⟨"ExpressHouse$Machine", "startRepeat", "(I)V"⟩ ⟨"ExpressHouse$Machine", "startRepeat", "(I)V"⟩ ∈ xBIG := xin_0 (List.mem_of_getElem? (i := 38) rfl) rfl
theorem xw_1187 : Cond.methodLink "ExpressHouse$Machine" 282 ⟨"ExpressHouse$Machine", "startRepeat", "(I)V"⟩ ∈ xBIG := xin_5 (List.mem_of_getElem? (i := 239) rfl) rfl
theorem xw_1188 : Cond.constantLong "ExpressHouse$Reals" 31 (Int64.ofNat 9223372036854775808) ∈ xBIG := xin_5 (List.mem_of_getElem? (i := 7) rfl) rfl
theorem xw_1189 : Cond.constantLong "ExpressHouse$Reals" 11 (Int64.ofNat 9218868437227405312) ∈ xBIG := xin_4 (List.mem_of_getElem? (i := 124) rfl) rfl
theorem xw_1190 : Cond.constantLong "ExpressHouse$Reals" 19 (Int64.ofNat 4503599627370495) ∈ xBIG := xin_4 (List.mem_of_getElem? (i := 119) rfl) rfl
theorem xw_1191 : Cond.constantLong "ExpressHouse$Reals" 9 (Int64.ofNat 9223372036854775807) ∈ xBIG := xin_4 (List.mem_of_getElem? (i := 118) rfl) rfl
theorem xw_1192 : Cond.constantLong "ExpressHouse$Reals" 25 (Int64.ofNat 4503599627370496) ∈ xBIG := xin_4 (List.mem_of_getElem? (i := 120) rfl) rfl
theorem xw_1193 : Cond.fieldLink "ExpressHouse$Judge" 92 "ExpressHouse$Value" "sort" "I" ∈ xBIG := xin_2 (List.mem_of_getElem? (i := 50) rfl) rfl
theorem xw_1194 : Cond.fieldLink "ExpressHouse$Judge" 95 "ExpressHouse$Value" "cells" "[J" ∈ xBIG := xin_2 (List.mem_of_getElem? (i := 70) rfl) rfl
theorem xw_1195 : Cond.methodLink "ExpressHouse$Judge" 115 ⟨"ExpressHouse$Population", "alike", "(LExpressHouse$Value;LExpressHouse$Value;)Z"⟩ ∈ xBIG := xin_6 (List.mem_of_getElem? (i := 82) rfl) rfl
theorem xw_1196 : Cond.methodLink "ExpressHouse$FileWriter" 79 ⟨"ExpressHouse$Tokens", "lengthOf", "(J)I"⟩ ∈ xBIG := xin_6 (List.mem_of_getElem? (i := 148) rfl) rfl
theorem xw_1197 : Cond.static ⟨"ExpressHouse$Tokens", "lengthOf", "(J)I"⟩ ∈ xBIG := xin_6 (List.mem_of_getElem? (i := 149) rfl) rfl
theorem xw_1198 : Cond.methodLink "ExpressHouse$FileWriter" 85 ⟨"ExpressHouse$Tokens", "byteOf", "(JI)I"⟩ ∈ xBIG := xin_6 (List.mem_of_getElem? (i := 151) rfl) rfl
theorem xw_1199 : Cond.static ⟨"ExpressHouse$Tokens", "byteOf", "(JI)I"⟩ ∈ xBIG := xin_6 (List.mem_of_getElem? (i := 152) rfl) rfl
theorem xw_1200 : Cond.fieldLink "ExpressHouse$FileWriter" 89 "ExpressHouse$Value" "kind" "I" ∈ xBIG := xin_2 (List.mem_of_getElem? (i := 35) rfl) rfl
theorem xw_1201 : Cond.fieldLink "ExpressHouse$FileWriter" 94 "ExpressHouse$Value" "bits" "J" ∈ xBIG := xin_2 (List.mem_of_getElem? (i := 42) rfl) rfl
theorem xw_1202 : Cond.instanceMethod ⟨"ExpressHouse$FileWriter", "scalar", "(IJ)V"⟩ ∈ xBIG := xin_6 (List.mem_of_getElem? (i := 163) rfl) rfl
theorem xw_1203 : Cond.selects "ExpressHouse$FileWriter" ⟨"ExpressHouse$FileWriter", "scalar", "(IJ)V"⟩ ⟨"ExpressHouse$FileWriter", "scalar", "(IJ)V"⟩ ∈ xBIG := xin_0 (List.mem_of_getElem? (i := 52) rfl) rfl
theorem xw_1204 : Cond.methodLink "ExpressHouse$FileWriter" 98 ⟨"ExpressHouse$FileWriter", "scalar", "(IJ)V"⟩ ∈ xBIG := xin_6 (List.mem_of_getElem? (i := 161) rfl) rfl
theorem xw_1205 : Cond.fieldLink "ExpressHouse$FileWriter" 102 "ExpressHouse$Value" "cells" "[J" ∈ xBIG := xin_2 (List.mem_of_getElem? (i := 69) rfl) rfl
theorem xw_1206 : Cond.methodLink "ExpressHouse$FileWriter" 106 ⟨"ExpressHouse$Value", "kindAt", "(I)I"⟩ ∈ xBIG := xin_6 (List.mem_of_getElem? (i := 181) rfl) rfl
theorem xw_1207 : Cond.methodLink "ExpressHouse$FileWriter" 110 ⟨"ExpressHouse$Value", "bitsAt", "(I)J"⟩ ∈ xBIG := xin_6 (List.mem_of_getElem? (i := 182) rfl) rfl
theorem xw_1208 : Cond.methodLink "ExpressHouse$FileReader" 154 ⟨"ExpressHouse$Tokens", "isLetter", "(I)Z"⟩ ∈ xBIG := xin_10 (List.mem_of_getElem? (i := 0) rfl) rfl
theorem xw_1209 : Cond.methodLink "ExpressHouse$FileReader" 157 ⟨"ExpressHouse$Tokens", "digitOf", "(I)I"⟩ ∈ xBIG := xin_10 (List.mem_of_getElem? (i := 1) rfl) rfl
theorem xw_1210 : Cond.constantLong "ExpressHouse$FileReader" 160 (Int64.ofNat 38) ∈ xBIG := xin_10 (List.mem_of_getElem? (i := 2) rfl) rfl
theorem xw_1211 : Cond.methodLink "ExpressHouse$FileReader" 162 ⟨"ExpressHouse$Tokens", "kindOfWord", "(J)I"⟩ ∈ xBIG := xin_10 (List.mem_of_getElem? (i := 3) rfl) rfl
theorem xw_1212 : Cond.instanceMethod ⟨"ExpressHouse$FileReader", "scalar", "()V"⟩ ∈ xBIG := xin_10 (List.mem_of_getElem? (i := 15) rfl) rfl
theorem xw_1213 : Cond.selects "ExpressHouse$FileReader" ⟨"ExpressHouse$FileReader", "scalar", "()V"⟩ ⟨"ExpressHouse$FileReader", "scalar", "()V"⟩ ∈ xBIG := xin_0 (List.mem_of_getElem? (i := 136) rfl) rfl
theorem xw_1214 : Cond.methodLink "ExpressHouse$FileReader" 184 ⟨"ExpressHouse$FileReader", "scalar", "()V"⟩ ∈ xBIG := xin_10 (List.mem_of_getElem? (i := 13) rfl) rfl
theorem xw_1215 : Cond.fieldLink "ExpressHouse$FileReader" 187 "ExpressHouse$Schema" "attributes" "[[I" ∈ xBIG := xin_1 (List.mem_of_getElem? (i := 192) rfl) rfl
theorem xw_1216 : Cond.classLink "ExpressHouse$FileReader" 26 "ExpressHouse$Value" ∈ xBIG := xin_10 (List.mem_of_getElem? (i := 41) rfl) rfl
theorem xw_1217 : Cond.fieldLink "ExpressHouse$FileReader" 190 "ExpressHouse$FileReader" "kind" "I" ∈ xBIG := xin_3 (List.mem_of_getElem? (i := 121) rfl) rfl
theorem xw_1218 : Cond.fieldLink "ExpressHouse$FileReader" 193 "ExpressHouse$FileReader" "bits" "J" ∈ xBIG := xin_3 (List.mem_of_getElem? (i := 122) rfl) rfl
theorem xw_1219 : Cond.methodLink "ExpressHouse$FileReader" 200 ⟨"ExpressHouse$Population", "convertedScalar", "(LExpressHouse$Value;I)LExpressHouse$Value;"⟩ ∈ xBIG := xin_10 (List.mem_of_getElem? (i := 43) rfl) rfl
theorem xw_1220 : Cond.instanceMethod ⟨"ExpressHouse$FileReader", "holdOrFail", "(IILExpressHouse$Value;I)V"⟩ ∈ xBIG := xin_10 (List.mem_of_getElem? (i := 46) rfl) rfl
theorem xw_1221 : Cond.selects "ExpressHouse$FileReader" ⟨"ExpressHouse$FileReader", "holdOrFail", "(IILExpressHouse$Value;I)V"⟩ ⟨"ExpressHouse$FileReader", "holdOrFail", "(IILExpressHouse$Value;I)V"⟩ ∈ xBIG := xin_0 (List.mem_of_getElem? (i := 141) rfl) rfl
theorem xw_1222 : Cond.methodLink "ExpressHouse$FileReader" 204 ⟨"ExpressHouse$FileReader", "holdOrFail", "(IILExpressHouse$Value;I)V"⟩ ∈ xBIG := xin_10 (List.mem_of_getElem? (i := 44) rfl) rfl
theorem xw_1223 : Cond.methodLink "ExpressHouse$FileReader" 208 ⟨"java/util/Arrays", "copyOf", "([JI)[J"⟩ ∈ xBIG := xin_10 (List.mem_of_getElem? (i := 50) rfl) rfl
theorem xw_1224 : Cond.instanceMethod ⟨"ExpressHouse$FileReader", "holdAggregate", "(IIII[J)V"⟩ ∈ xBIG := xin_10 (List.mem_of_getElem? (i := 53) rfl) rfl
theorem xw_1225 : Cond.selects "ExpressHouse$FileReader" ⟨"ExpressHouse$FileReader", "holdAggregate", "(IIII[J)V"⟩ ⟨"ExpressHouse$FileReader", "holdAggregate", "(IIII[J)V"⟩ ∈ xBIG := xin_0 (List.mem_of_getElem? (i := 142) rfl) rfl
theorem xw_1226 : Cond.methodLink "ExpressHouse$FileReader" 214 ⟨"ExpressHouse$FileReader", "holdAggregate", "(IIII[J)V"⟩ ∈ xBIG := xin_10 (List.mem_of_getElem? (i := 51) rfl) rfl
theorem xw_1227 : Cond.methodLink "ExpressHouse$Reals" 39 ⟨"ExpressHouse$Reals", "toBits", "(D)J"⟩ ∈ xBIG := xin_5 (List.mem_of_getElem? (i := 38) rfl) rfl
theorem xw_1228 : Cond.methodLink "ExpressHouse$Schema" 102 ⟨"ExpressHouse$Schema", "find", "(IJ)I"⟩ ∈ xBIG := xin_7 (List.mem_of_getElem? (i := 168) rfl) rfl
theorem xw_1229 : Cond.instanceMethod ⟨"ExpressHouse$Schema", "findBuiltIn", "(J)I"⟩ ∈ xBIG := xin_7 (List.mem_of_getElem? (i := 173) rfl) rfl
theorem xw_1230 : Cond.selects "ExpressHouse$Schema" ⟨"ExpressHouse$Schema", "findBuiltIn", "(J)I"⟩ ⟨"ExpressHouse$Schema", "findBuiltIn", "(J)I"⟩ ∈ xBIG := xin_7 (List.mem_of_getElem? (i := 174) rfl) rfl
theorem xw_1231 : Cond.methodLink "ExpressHouse$Schema" 106 ⟨"ExpressHouse$Schema", "findBuiltIn", "(J)I"⟩ ∈ xBIG := xin_7 (List.mem_of_getElem? (i := 172) rfl) rfl
theorem xw_1232 : Cond.methodLink "ExpressHouse$Schema" 98 ⟨"ExpressHouse$Schema", "most", "(I)I"⟩ ∈ xBIG := xin_7 (List.mem_of_getElem? (i := 184) rfl) rfl
theorem xw_1233 : Cond.instanceMethod ⟨"ExpressHouse$Schema", "isAggregate", "(I)Z"⟩ ∈ xBIG := xin_7 (List.mem_of_getElem? (i := 210) rfl) rfl
theorem xw_1234 : Cond.selects "ExpressHouse$Schema" ⟨"ExpressHouse$Schema", "isAggregate", "(I)Z"⟩ ⟨"ExpressHouse$Schema", "isAggregate", "(I)Z"⟩ ∈ xBIG := xin_7 (List.mem_of_getElem? (i := 211) rfl) rfl
theorem xw_1235 : Cond.methodLink "ExpressHouse$SchemaReader" 184 ⟨"ExpressHouse$Schema", "isAggregate", "(I)Z"⟩ ∈ xBIG := xin_7 (List.mem_of_getElem? (i := 209) rfl) rfl
theorem xw_1236 : Cond.methodLink "ExpressHouse$SchemaReader" 174 ⟨"ExpressHouse$Schema", "isType", "(I)Z"⟩ ∈ xBIG := xin_7 (List.mem_of_getElem? (i := 217) rfl) rfl
theorem xw_1237 : Cond.methodLink "ExpressHouse$SchemaReader" 177 ⟨"ExpressHouse$Schema", "accepts", "(I)I"⟩ ∈ xBIG := xin_7 (List.mem_of_getElem? (i := 221) rfl) rfl
theorem xw_1238 : Cond.instanceMethod ⟨"ExpressHouse$SchemaReader", "oneOver", "(I)V"⟩ ∈ xBIG := xin_8 (List.mem_of_getElem? (i := 172) rfl) rfl
theorem xw_1239 : Cond.selects "ExpressHouse$SchemaReader" ⟨"ExpressHouse$SchemaReader", "oneOver", "(I)V"⟩ ⟨"ExpressHouse$SchemaReader", "oneOver", "(I)V"⟩ ∈ xBIG := xin_0 (List.mem_of_getElem? (i := 94) rfl) rfl
theorem xw_1240 : Cond.methodLink "ExpressHouse$SchemaReader" 244 ⟨"ExpressHouse$SchemaReader", "oneOver", "(I)V"⟩ ∈ xBIG := xin_8 (List.mem_of_getElem? (i := 170) rfl) rfl
theorem xw_1241 : Cond.instanceMethod ⟨"ExpressHouse$SchemaReader", "attributeOf", "(III)[I"⟩ ∈ xBIG := xin_8 (List.mem_of_getElem? (i := 191) rfl) rfl
theorem xw_1242 : Cond.selects "ExpressHouse$SchemaReader" ⟨"ExpressHouse$SchemaReader", "attributeOf", "(III)[I"⟩ ⟨"ExpressHouse$SchemaReader", "attributeOf", "(III)[I"⟩ ∈ xBIG := xin_0 (List.mem_of_getElem? (i := 98) rfl) rfl
theorem xw_1243 : Cond.methodLink "ExpressHouse$SchemaReader" 267 ⟨"ExpressHouse$SchemaReader", "attributeOf", "(III)[I"⟩ ∈ xBIG := xin_8 (List.mem_of_getElem? (i := 189) rfl) rfl
theorem xw_1244 : Cond.methodLink "ExpressHouse$SchemaReader" 271 ⟨"ExpressHouse$Schema", "isExplicit", "(I)Z"⟩ ∈ xBIG := xin_8 (List.mem_of_getElem? (i := 201) rfl) rfl
theorem xw_1245 : Cond.fieldLink "ExpressHouse$SchemaReader" 265 "ExpressHouse$Schema" "attributes" "[[I" ∈ xBIG := xin_1 (List.mem_of_getElem? (i := 193) rfl) rfl
theorem xw_1246 : Cond.instanceMethod ⟨"ExpressHouse$SchemaReader", "misnamedAtLast", "()V"⟩ ∈ xBIG := xin_8 (List.mem_of_getElem? (i := 204) rfl) rfl
theorem xw_1247 : Cond.selects "ExpressHouse$SchemaReader" ⟨"ExpressHouse$SchemaReader", "misnamedAtLast", "()V"⟩ ⟨"ExpressHouse$SchemaReader", "misnamedAtLast", "()V"⟩ ∈ xBIG := xin_0 (List.mem_of_getElem? (i := 101) rfl) rfl
theorem xw_1248 : Cond.methodLink "ExpressHouse$SchemaReader" 274 ⟨"ExpressHouse$SchemaReader", "misnamedAtLast", "()V"⟩ ∈ xBIG := xin_8 (List.mem_of_getElem? (i := 202) rfl) rfl
theorem xw_1249 : Cond.instanceMethod ⟨"ExpressHouse$SchemaReader", "uniqueName", "(I)J"⟩ ∈ xBIG := xin_8 (List.mem_of_getElem? (i := 216) rfl) rfl
theorem xw_1250 : Cond.selects "ExpressHouse$SchemaReader" ⟨"ExpressHouse$SchemaReader", "uniqueName", "(I)J"⟩ ⟨"ExpressHouse$SchemaReader", "uniqueName", "(I)J"⟩ ∈ xBIG := xin_0 (List.mem_of_getElem? (i := 104) rfl) rfl
theorem xw_1251 : Cond.methodLink "ExpressHouse$SchemaReader" 286 ⟨"ExpressHouse$SchemaReader", "uniqueName", "(I)J"⟩ ∈ xBIG := xin_8 (List.mem_of_getElem? (i := 214) rfl) rfl
theorem xw_1252 : Cond.constantLong "ExpressHouse$SchemaReader" 196 (Int64.ofNat 24) ∈ xBIG := xin_8 (List.mem_of_getElem? (i := 2) rfl) rfl
theorem xw_1253 : Cond.instanceMethod ⟨"ExpressHouse$SchemaReader", "assignment", "([I)V"⟩ ∈ xBIG := xin_9 (List.mem_of_getElem? (i := 5) rfl) rfl
theorem xw_1254 : Cond.selects "ExpressHouse$SchemaReader" ⟨"ExpressHouse$SchemaReader", "assignment", "([I)V"⟩ ⟨"ExpressHouse$SchemaReader", "assignment", "([I)V"⟩ ∈ xBIG := xin_0 (List.mem_of_getElem? (i := 109) rfl) rfl
theorem xw_1255 : Cond.methodLink "ExpressHouse$SchemaReader" 325 ⟨"ExpressHouse$SchemaReader", "assignment", "([I)V"⟩ ∈ xBIG := xin_9 (List.mem_of_getElem? (i := 3) rfl) rfl
theorem xw_1256 : Cond.instanceMethod ⟨"ExpressHouse$SchemaReader", "choice", "([II)V"⟩ ∈ xBIG := xin_9 (List.mem_of_getElem? (i := 10) rfl) rfl
theorem xw_1257 : Cond.selects "ExpressHouse$SchemaReader" ⟨"ExpressHouse$SchemaReader", "choice", "([II)V"⟩ ⟨"ExpressHouse$SchemaReader", "choice", "([II)V"⟩ ∈ xBIG := xin_0 (List.mem_of_getElem? (i := 110) rfl) rfl
theorem xw_1258 : Cond.methodLink "ExpressHouse$SchemaReader" 329 ⟨"ExpressHouse$SchemaReader", "choice", "([II)V"⟩ ∈ xBIG := xin_9 (List.mem_of_getElem? (i := 8) rfl) rfl
theorem xw_1259 : Cond.instanceMethod ⟨"ExpressHouse$SchemaReader", "repetition", "([II)V"⟩ ∈ xBIG := xin_9 (List.mem_of_getElem? (i := 15) rfl) rfl
theorem xw_1260 : Cond.selects "ExpressHouse$SchemaReader" ⟨"ExpressHouse$SchemaReader", "repetition", "([II)V"⟩ ⟨"ExpressHouse$SchemaReader", "repetition", "([II)V"⟩ ∈ xBIG := xin_0 (List.mem_of_getElem? (i := 111) rfl) rfl
theorem xw_1261 : Cond.methodLink "ExpressHouse$SchemaReader" 332 ⟨"ExpressHouse$SchemaReader", "repetition", "([II)V"⟩ ∈ xBIG := xin_9 (List.mem_of_getElem? (i := 13) rfl) rfl
theorem xw_1262 : Cond.instanceMethod ⟨"ExpressHouse$SchemaReader", "whileLoop", "([II)V"⟩ ∈ xBIG := xin_9 (List.mem_of_getElem? (i := 29) rfl) rfl
theorem xw_1263 : Cond.selects "ExpressHouse$SchemaReader" ⟨"ExpressHouse$SchemaReader", "whileLoop", "([II)V"⟩ ⟨"ExpressHouse$SchemaReader", "whileLoop", "([II)V"⟩ ∈ xBIG := xin_0 (List.mem_of_getElem? (i := 114) rfl) rfl
theorem xw_1264 : Cond.methodLink "ExpressHouse$SchemaReader" 335 ⟨"ExpressHouse$SchemaReader", "whileLoop", "([II)V"⟩ ∈ xBIG := xin_9 (List.mem_of_getElem? (i := 27) rfl) rfl
theorem xw_1265 : Cond.instanceMethod ⟨"ExpressHouse$SchemaReader", "leap", "(I)V"⟩ ∈ xBIG := xin_9 (List.mem_of_getElem? (i := 33) rfl) rfl
theorem xw_1266 : Cond.selects "ExpressHouse$SchemaReader" ⟨"ExpressHouse$SchemaReader", "leap", "(I)V"⟩ ⟨"ExpressHouse$SchemaReader", "leap", "(I)V"⟩ ∈ xBIG := xin_0 (List.mem_of_getElem? (i := 115) rfl) rfl
theorem xw_1267 : Cond.methodLink "ExpressHouse$SchemaReader" 338 ⟨"ExpressHouse$SchemaReader", "leap", "(I)V"⟩ ∈ xBIG := xin_9 (List.mem_of_getElem? (i := 31) rfl) rfl
theorem xw_1268 : Cond.instanceMethod ⟨"ExpressHouse$Expressions", "term", "()V"⟩ ∈ xBIG := xin_8 (List.mem_of_getElem? (i := 22) rfl) rfl
theorem xw_1269 : Cond.selects "ExpressHouse$Expressions" ⟨"ExpressHouse$Expressions", "term", "()V"⟩ ⟨"ExpressHouse$Expressions", "term", "()V"⟩ ∈ xBIG := xin_0 (List.mem_of_getElem? (i := 73) rfl) rfl
theorem xw_1270 : Cond.methodLink "ExpressHouse$Expressions" 104 ⟨"ExpressHouse$Expressions", "term", "()V"⟩ ∈ xBIG := xin_8 (List.mem_of_getElem? (i := 20) rfl) rfl
theorem xw_1271 : Cond.constant "ExpressHouse$Expressions" 107 (Int32.ofNat 1000000) ∈ xBIG := xin_8 (List.mem_of_getElem? (i := 74) rfl) rfl
theorem xw_1272 : Cond.methodLink "ExpressHouse$Expressions" 108 ⟨"ExpressHouse$Expressions", "isSumSign", "(I)Z"⟩ ∈ xBIG := xin_8 (List.mem_of_getElem? (i := 142) rfl) rfl
theorem xw_1273 : Cond.static ⟨"ExpressHouse$Expressions", "isSumSign", "(I)Z"⟩ ∈ xBIG := xin_8 (List.mem_of_getElem? (i := 143) rfl) rfl
theorem xw_1274 : Cond.instanceMethod ⟨"ExpressHouse$Expressions", "emitOperator", "(I)V"⟩ ∈ xBIG := xin_8 (List.mem_of_getElem? (i := 140) rfl) rfl
theorem xw_1275 : Cond.selects "ExpressHouse$Expressions" ⟨"ExpressHouse$Expressions", "emitOperator", "(I)V"⟩ ⟨"ExpressHouse$Expressions", "emitOperator", "(I)V"⟩ ∈ xBIG := xin_0 (List.mem_of_getElem? (i := 87) rfl) rfl
theorem xw_1276 : Cond.methodLink "ExpressHouse$Expressions" 112 ⟨"ExpressHouse$Expressions", "emitOperator", "(I)V"⟩ ∈ xBIG := xin_8 (List.mem_of_getElem? (i := 138) rfl) rfl
theorem xw_1277 : Cond.instanceMethod ⟨"ExpressHouse$Tokens", "node", "()Z"⟩ ∈ xBIG := xin_8 (List.mem_of_getElem? (i := 57) rfl) rfl
theorem xw_1278 : Cond.selects "ExpressHouse$Tokens" ⟨"ExpressHouse$Tokens", "node", "()Z"⟩ ⟨"ExpressHouse$Tokens", "node", "()Z"⟩ ∈ xBIG := xin_8 (List.mem_of_getElem? (i := 58) rfl) rfl
theorem xw_1279 : Cond.methodLink "ExpressHouse$Expressions" 79 ⟨"ExpressHouse$Tokens", "node", "()Z"⟩ ∈ xBIG := xin_8 (List.mem_of_getElem? (i := 56) rfl) rfl
theorem xw_1280 : Cond.methodLink "ExpressHouse$Expressions" 83 ⟨"ExpressHouse$Tokens", "advance", "()V"⟩ ∈ xBIG := xin_8 (List.mem_of_getElem? (i := 45) rfl) rfl
theorem xw_1281 : Cond.methodLink "ExpressHouse$Expressions" 86 ⟨"ExpressHouse$Tokens", "fail", "(I)V"⟩ ∈ xBIG := xin_8 (List.mem_of_getElem? (i := 60) rfl) rfl
theorem xw_1282 : Cond.instanceMethod ⟨"ExpressHouse$Expressions", "stepMore", "(I)V"⟩ ∈ xBIG := xin_8 (List.mem_of_getElem? (i := 63) rfl) rfl
theorem xw_1283 : Cond.selects "ExpressHouse$Expressions" ⟨"ExpressHouse$Expressions", "stepMore", "(I)V"⟩ ⟨"ExpressHouse$Expressions", "stepMore", "(I)V"⟩ ∈ xBIG := xin_0 (List.mem_of_getElem? (i := 78) rfl) rfl
theorem xw_1284 : Cond.methodLink "ExpressHouse$Expressions" 89 ⟨"ExpressHouse$Expressions", "stepMore", "(I)V"⟩ ∈ xBIG := xin_8 (List.mem_of_getElem? (i := 61) rfl) rfl
theorem xw_1285 : Cond.methodLink "ExpressHouse$Reals" 13 ⟨"ExpressHouse$Reals", "isNan", "(J)Z"⟩ ∈ xBIG := xin_5 (List.mem_of_getElem? (i := 5) rfl) rfl
theorem xw_1286 : Cond.constantLong "ExpressHouse$Reals" 17 (Int64.ofNat 9221120237041090560) ∈ xBIG := xin_5 (List.mem_of_getElem? (i := 6) rfl) rfl
theorem xw_1287 : Cond.methodLink "ExpressHouse$Operators" 205 ⟨"ExpressHouse$Reals", "rounded", "(JI)J"⟩ ∈ xBIG := xin_5 (List.mem_of_getElem? (i := 46) rfl) rfl
theorem xw_1288 : Cond.static ⟨"ExpressHouse$Reals", "rounded", "(JI)J"⟩ ∈ xBIG := xin_5 (List.mem_of_getElem? (i := 47) rfl) rfl
theorem xw_1289 : Cond.methodLink "ExpressHouse$Reals" 60 ⟨"ExpressHouse$Reals", "isZero", "(J)Z"⟩ ∈ xBIG := xin_5 (List.mem_of_getElem? (i := 61) rfl) rfl
theorem xw_1290 : Cond.static ⟨"ExpressHouse$Reals", "isZero", "(J)Z"⟩ ∈ xBIG := xin_5 (List.mem_of_getElem? (i := 62) rfl) rfl
theorem xw_1291 : Cond.constantLong "ExpressHouse$Reals" 63 (Int64.ofNat 4607182418800017408) ∈ xBIG := xin_5 (List.mem_of_getElem? (i := 64) rfl) rfl
theorem xw_1292 : Cond.methodLink "ExpressHouse$Operators" 208 ⟨"ExpressHouse$Reals", "signed", "(JJ)J"⟩ ∈ xBIG := xin_5 (List.mem_of_getElem? (i := 80) rfl) rfl
theorem xw_1293 : Cond.static ⟨"ExpressHouse$Reals", "signed", "(JJ)J"⟩ ∈ xBIG := xin_5 (List.mem_of_getElem? (i := 81) rfl) rfl
theorem xw_1294 : Cond.methodLink "ExpressHouse$Operators" 211 ⟨"ExpressHouse$Reals", "extreme", "(JJI)J"⟩ ∈ xBIG := xin_5 (List.mem_of_getElem? (i := 89) rfl) rfl
theorem xw_1295 : Cond.static ⟨"ExpressHouse$Reals", "extreme", "(JJI)J"⟩ ∈ xBIG := xin_5 (List.mem_of_getElem? (i := 90) rfl) rfl
theorem xw_1296 : Cond.methodLink "ExpressHouse$Value" 38 ⟨"ExpressHouse$Value", "isHole", "(I)Z"⟩ ∈ xBIG := xin_5 (List.mem_of_getElem? (i := 100) rfl) rfl
theorem xw_1297 : Cond.methodLink "ExpressHouse$Operators" 91 ⟨"ExpressHouse$Value", "isHole", "(I)Z"⟩ ∈ xBIG := xin_5 (List.mem_of_getElem? (i := 117) rfl) rfl
theorem xw_1298 : Cond.methodLink "ExpressHouse$Operators" 95 ⟨"ExpressHouse$Population", "cellsAlike", "(IJIJ)Z"⟩ ∈ xBIG := xin_5 (List.mem_of_getElem? (i := 118) rfl) rfl
theorem xw_1299 : Cond.methodLink "ExpressHouse$Operators" 125 ⟨"ExpressHouse$Reals", "isNan", "(J)Z"⟩ ∈ xBIG := xin_5 (List.mem_of_getElem? (i := 123) rfl) rfl
theorem xw_1300 : Cond.methodLink "ExpressHouse$Operators" 129 ⟨"ExpressHouse$Reals", "toDouble", "(J)D"⟩ ∈ xBIG := xin_5 (List.mem_of_getElem? (i := 124) rfl) rfl
theorem xw_1301 : Cond.static ⟨"ExpressHouse$Reals", "toDouble", "(J)D"⟩ ∈ xBIG := xin_5 (List.mem_of_getElem? (i := 51) rfl) rfl
theorem xw_1302 : Cond.fieldLink "ExpressHouse$Operators" 133 "ExpressHouse$Population" "schema" "LExpressHouse$Schema;" ∈ xBIG := xin_2 (List.mem_of_getElem? (i := 95) rfl) rfl
theorem xw_1303 : Cond.instanceMethod ⟨"ExpressHouse$Schema", "typeOfItem", "(I)I"⟩ ∈ xBIG := xin_5 (List.mem_of_getElem? (i := 126) rfl) rfl
theorem xw_1304 : Cond.selects "ExpressHouse$Schema" ⟨"ExpressHouse$Schema", "typeOfItem", "(I)I"⟩ ⟨"ExpressHouse$Schema", "typeOfItem", "(I)I"⟩ ∈ xBIG := xin_5 (List.mem_of_getElem? (i := 127) rfl) rfl
theorem xw_1305 : Cond.methodLink "ExpressHouse$Operators" 137 ⟨"ExpressHouse$Schema", "typeOfItem", "(I)I"⟩ ∈ xBIG := xin_5 (List.mem_of_getElem? (i := 125) rfl) rfl
theorem xw_1306 : Cond.constantLong "ExpressHouse$Operators" 67 (Int64.ofNat 1099511627776) ∈ xBIG := xin_5 (List.mem_of_getElem? (i := 144) rfl) rfl
theorem xw_1307 : Cond.fieldLink "ExpressHouse$Reals" 43 "ExpressHouse$Value" "kind" "I" ∈ xBIG := xin_2 (List.mem_of_getElem? (i := 36) rfl) rfl
theorem xw_1308 : Cond.fieldLink "ExpressHouse$Reals" 49 "ExpressHouse$Value" "bits" "J" ∈ xBIG := xin_2 (List.mem_of_getElem? (i := 43) rfl) rfl
theorem xw_1309 : Cond.methodLink "ExpressHouse$Reals" 53 ⟨"ExpressHouse$Reals", "isInfinite", "(J)Z"⟩ ∈ xBIG := xin_5 (List.mem_of_getElem? (i := 148) rfl) rfl
theorem xw_1310 : Cond.static ⟨"ExpressHouse$Reals", "isInfinite", "(J)Z"⟩ ∈ xBIG := xin_5 (List.mem_of_getElem? (i := 149) rfl) rfl
theorem xw_1311 : Cond.methodLink "ExpressHouse$Reals" 56 ⟨"ExpressHouse$Reals", "toDouble", "(J)D"⟩ ∈ xBIG := xin_5 (List.mem_of_getElem? (i := 50) rfl) rfl
theorem xw_1312 : Cond.methodLink "ExpressHouse$Value" 42 ⟨"java/lang/Math", "max", "(II)I"⟩ ∈ xBIG := xin_5 (List.mem_of_getElem? (i := 198) rfl) rfl
theorem xw_1313 : Cond.methodLink "ExpressHouse$Operators" 153 ⟨"ExpressHouse$Schema", "kindCell", "(II)I"⟩ ∈ xBIG := xin_5 (List.mem_of_getElem? (i := 226) rfl) rfl
theorem xw_1314 : Cond.methodLink "ExpressHouse$Operators" 157 ⟨"ExpressHouse$Population", "convertedScalar", "(LExpressHouse$Value;I)LExpressHouse$Value;"⟩ ∈ xBIG := xin_5 (List.mem_of_getElem? (i := 227) rfl) rfl
theorem xw_1315 : Cond.methodLink "ExpressHouse$Operators" 161 ⟨"ExpressHouse$Population", "isAccepted", "(IIJ)Z"⟩ ∈ xBIG := xin_5 (List.mem_of_getElem? (i := 228) rfl) rfl
theorem xw_1316 : Cond.fieldLink "ExpressHouse$Operators" 165 "ExpressHouse$Value" "holes" "I" ∈ xBIG := xin_2 (List.mem_of_getElem? (i := 64) rfl) rfl
theorem xw_1317 : Cond.methodLink "ExpressHouse$Operators" 168 ⟨"[J", "clone", "()Ljava/lang/Object;"⟩ ∈ xBIG := xin_5 (List.mem_of_getElem? (i := 229) rfl) rfl
theorem xw_1318 : Cond.classLink "ExpressHouse$Operators" 169 "[J" ∈ xBIG := xin_5 (List.mem_of_getElem? (i := 230) rfl) rfl
theorem xw_1319 : Cond.methodLink "ExpressHouse$Tokens" 47 ⟨"ExpressHouse$Tokens", "lengthOf", "(J)I"⟩ ∈ xBIG := xin_6 (List.mem_of_getElem? (i := 154) rfl) rfl
theorem xw_1320 : Cond.instanceMethod ⟨"ExpressHouse$FileWriter", "real", "(J)V"⟩ ∈ xBIG := xin_6 (List.mem_of_getElem? (i := 167) rfl) rfl
theorem xw_1321 : Cond.selects "ExpressHouse$FileWriter" ⟨"ExpressHouse$FileWriter", "real", "(J)V"⟩ ⟨"ExpressHouse$FileWriter", "real", "(J)V"⟩ ∈ xBIG := xin_0 (List.mem_of_getElem? (i := 53) rfl) rfl
theorem xw_1322 : Cond.methodLink "ExpressHouse$FileWriter" 114 ⟨"ExpressHouse$FileWriter", "real", "(J)V"⟩ ∈ xBIG := xin_6 (List.mem_of_getElem? (i := 165) rfl) rfl
theorem xw_1323 : Cond.constantLong "ExpressHouse$FileWriter" 117 (Int64.ofNat 2) ∈ xBIG := xin_6 (List.mem_of_getElem? (i := 180) rfl) rfl
theorem xw_1324 : Cond.instanceMethod ⟨"ExpressHouse$FileReader", "hexadecimal", "()V"⟩ ∈ xBIG := xin_10 (List.mem_of_getElem? (i := 19) rfl) rfl
theorem xw_1325 : Cond.selects "ExpressHouse$FileReader" ⟨"ExpressHouse$FileReader", "hexadecimal", "()V"⟩ ⟨"ExpressHouse$FileReader", "hexadecimal", "()V"⟩ ∈ xBIG := xin_0 (List.mem_of_getElem? (i := 137) rfl) rfl
theorem xw_1326 : Cond.methodLink "ExpressHouse$FileReader" 239 ⟨"ExpressHouse$FileReader", "hexadecimal", "()V"⟩ ∈ xBIG := xin_10 (List.mem_of_getElem? (i := 17) rfl) rfl
theorem xw_1327 : Cond.instanceMethod ⟨"ExpressHouse$FileReader", "itemOrLogical", "()V"⟩ ∈ xBIG := xin_10 (List.mem_of_getElem? (i := 26) rfl) rfl
theorem xw_1328 : Cond.selects "ExpressHouse$FileReader" ⟨"ExpressHouse$FileReader", "itemOrLogical", "()V"⟩ ⟨"ExpressHouse$FileReader", "itemOrLogical", "()V"⟩ ∈ xBIG := xin_0 (List.mem_of_getElem? (i := 138) rfl) rfl
theorem xw_1329 : Cond.methodLink "ExpressHouse$FileReader" 242 ⟨"ExpressHouse$FileReader", "itemOrLogical", "()V"⟩ ∈ xBIG := xin_10 (List.mem_of_getElem? (i := 24) rfl) rfl
theorem xw_1330 : Cond.instanceMethod ⟨"ExpressHouse$FileReader", "number", "()V"⟩ ∈ xBIG := xin_10 (List.mem_of_getElem? (i := 31) rfl) rfl
theorem xw_1331 : Cond.selects "ExpressHouse$FileReader" ⟨"ExpressHouse$FileReader", "number", "()V"⟩ ⟨"ExpressHouse$FileReader", "number", "()V"⟩ ∈ xBIG := xin_0 (List.mem_of_getElem? (i := 139) rfl) rfl
theorem xw_1332 : Cond.methodLink "ExpressHouse$FileReader" 245 ⟨"ExpressHouse$FileReader", "number", "()V"⟩ ∈ xBIG := xin_10 (List.mem_of_getElem? (i := 29) rfl) rfl
theorem xw_1333 : Cond.methodLink "ExpressHouse$FileReader" 231 ⟨"ExpressHouse$Population", "fits", "(LExpressHouse$Value;I)Z"⟩ ∈ xBIG := xin_10 (List.mem_of_getElem? (i := 48) rfl) rfl
theorem xw_1334 : Cond.methodLink "ExpressHouse$FileReader" 235 ⟨"ExpressHouse$Population", "hold", "(IILExpressHouse$Value;)V"⟩ ∈ xBIG := xin_10 (List.mem_of_getElem? (i := 49) rfl) rfl
theorem xw_1335 : Cond.methodLink "ExpressHouse$FileReader" 218 ⟨"ExpressHouse$Schema", "kindCell", "(II)I"⟩ ∈ xBIG := xin_10 (List.mem_of_getElem? (i := 55) rfl) rfl
theorem xw_1336 : Cond.instanceMethod ⟨"ExpressHouse$FileReader", "isRepeating", "(I[J)Z"⟩ ∈ xBIG := xin_10 (List.mem_of_getElem? (i := 58) rfl) rfl
theorem xw_1337 : Cond.selects "ExpressHouse$FileReader" ⟨"ExpressHouse$FileReader", "isRepeating", "(I[J)Z"⟩ ⟨"ExpressHouse$FileReader", "isRepeating", "(I[J)Z"⟩ ∈ xBIG := xin_0 (List.mem_of_getElem? (i := 143) rfl) rfl
theorem xw_1338 : Cond.methodLink "ExpressHouse$FileReader" 221 ⟨"ExpressHouse$FileReader", "isRepeating", "(I[J)Z"⟩ ∈ xBIG := xin_10 (List.mem_of_getElem? (i := 56) rfl) rfl
theorem xw_1339 : Cond.instanceMethod ⟨"ExpressHouse$SchemaReader", "nameOver", "(I)V"⟩ ∈ xBIG := xin_8 (List.mem_of_getElem? (i := 176) rfl) rfl
theorem xw_1340 : Cond.selects "ExpressHouse$SchemaReader" ⟨"ExpressHouse$SchemaReader", "nameOver", "(I)V"⟩ ⟨"ExpressHouse$SchemaReader", "nameOver", "(I)V"⟩ ∈ xBIG := xin_0 (List.mem_of_getElem? (i := 95) rfl) rfl
theorem xw_1341 : Cond.methodLink "ExpressHouse$SchemaReader" 247 ⟨"ExpressHouse$SchemaReader", "nameOver", "(I)V"⟩ ∈ xBIG := xin_8 (List.mem_of_getElem? (i := 174) rfl) rfl
theorem xw_1342 : Cond.instanceMethod ⟨"ExpressHouse$Tokens", "open", "()V"⟩ ∈ xBIG := xin_8 (List.mem_of_getElem? (i := 41) rfl) rfl
theorem xw_1343 : Cond.selects "ExpressHouse$Tokens" ⟨"ExpressHouse$Tokens", "open", "()V"⟩ ⟨"ExpressHouse$Tokens", "open", "()V"⟩ ∈ xBIG := xin_8 (List.mem_of_getElem? (i := 42) rfl) rfl
theorem xw_1344 : Cond.methodLink "ExpressHouse$SchemaReader" 250 ⟨"ExpressHouse$Tokens", "open", "()V"⟩ ∈ xBIG := xin_8 (List.mem_of_getElem? (i := 179) rfl) rfl
theorem xw_1345 : Cond.instanceMethod ⟨"ExpressHouse$Tokens", "close", "()V"⟩ ∈ xBIG := xin_8 (List.mem_of_getElem? (i := 49) rfl) rfl
theorem xw_1346 : Cond.selects "ExpressHouse$Tokens" ⟨"ExpressHouse$Tokens", "close", "()V"⟩ ⟨"ExpressHouse$Tokens", "close", "()V"⟩ ∈ xBIG := xin_8 (List.mem_of_getElem? (i := 50) rfl) rfl
theorem xw_1347 : Cond.methodLink "ExpressHouse$SchemaReader" 253 ⟨"ExpressHouse$Tokens", "close", "()V"⟩ ∈ xBIG := xin_8 (List.mem_of_getElem? (i := 180) rfl) rfl
theorem xw_1348 : Cond.instanceMethod ⟨"ExpressHouse$Expressions", "isKnownTo", "(II)Z"⟩ ∈ xBIG := xin_8 (List.mem_of_getElem? (i := 119) rfl) rfl
theorem xw_1349 : Cond.selects "ExpressHouse$Expressions" ⟨"ExpressHouse$Expressions", "isKnownTo", "(II)Z"⟩ ⟨"ExpressHouse$Expressions", "isKnownTo", "(II)Z"⟩ ∈ xBIG := xin_8 (List.mem_of_getElem? (i := 120) rfl) rfl
theorem xw_1350 : Cond.methodLink "ExpressHouse$SchemaReader" 289 ⟨"ExpressHouse$Expressions", "isKnownTo", "(II)Z"⟩ ∈ xBIG := xin_8 (List.mem_of_getElem? (i := 218) rfl) rfl
theorem xw_1351 : Cond.instanceMethod ⟨"ExpressHouse$Expressions", "findHiding", "(J)I"⟩ ∈ xBIG := xin_8 (List.mem_of_getElem? (i := 111) rfl) rfl
theorem xw_1352 : Cond.selects "ExpressHouse$Expressions" ⟨"ExpressHouse$Expressions", "findHiding", "(J)I"⟩ ⟨"ExpressHouse$Expressions", "findHiding", "(J)I"⟩ ∈ xBIG := xin_8 (List.mem_of_getElem? (i := 112) rfl) rfl
theorem xw_1353 : Cond.methodLink "ExpressHouse$SchemaReader" 341 ⟨"ExpressHouse$Expressions", "findHiding", "(J)I"⟩ ∈ xBIG := xin_9 (List.mem_of_getElem? (i := 7) rfl) rfl
theorem xw_1354 : Cond.instanceMethod ⟨"ExpressHouse$Expressions", "patch", "(II)V"⟩ ∈ xBIG := xin_8 (List.mem_of_getElem? (i := 92) rfl) rfl
theorem xw_1355 : Cond.selects "ExpressHouse$Expressions" ⟨"ExpressHouse$Expressions", "patch", "(II)V"⟩ ⟨"ExpressHouse$Expressions", "patch", "(II)V"⟩ ∈ xBIG := xin_8 (List.mem_of_getElem? (i := 93) rfl) rfl
theorem xw_1356 : Cond.methodLink "ExpressHouse$SchemaReader" 344 ⟨"ExpressHouse$Expressions", "patch", "(II)V"⟩ ∈ xBIG := xin_9 (List.mem_of_getElem? (i := 12) rfl) rfl
theorem xw_1357 : Cond.instanceMethod ⟨"ExpressHouse$Expressions", "hide", "(J)I"⟩ ∈ xBIG := xin_8 (List.mem_of_getElem? (i := 80) rfl) rfl
theorem xw_1358 : Cond.selects "ExpressHouse$Expressions" ⟨"ExpressHouse$Expressions", "hide", "(J)I"⟩ ⟨"ExpressHouse$Expressions", "hide", "(J)I"⟩ ∈ xBIG := xin_8 (List.mem_of_getElem? (i := 81) rfl) rfl
theorem xw_1359 : Cond.methodLink "ExpressHouse$SchemaReader" 347 ⟨"ExpressHouse$Expressions", "hide", "(J)I"⟩ ∈ xBIG := xin_9 (List.mem_of_getElem? (i := 17) rfl) rfl
theorem xw_1360 : Cond.instanceMethod ⟨"ExpressHouse$SchemaReader", "startLoop", "(I)I"⟩ ∈ xBIG := xin_9 (List.mem_of_getElem? (i := 20) rfl) rfl
theorem xw_1361 : Cond.selects "ExpressHouse$SchemaReader" ⟨"ExpressHouse$SchemaReader", "startLoop", "(I)I"⟩ ⟨"ExpressHouse$SchemaReader", "startLoop", "(I)I"⟩ ∈ xBIG := xin_0 (List.mem_of_getElem? (i := 112) rfl) rfl
theorem xw_1362 : Cond.methodLink "ExpressHouse$SchemaReader" 350 ⟨"ExpressHouse$SchemaReader", "startLoop", "(I)I"⟩ ∈ xBIG := xin_9 (List.mem_of_getElem? (i := 18) rfl) rfl
theorem xw_1363 : Cond.instanceMethod ⟨"ExpressHouse$SchemaReader", "endLoop", "(III)V"⟩ ∈ xBIG := xin_9 (List.mem_of_getElem? (i := 24) rfl) rfl
theorem xw_1364 : Cond.selects "ExpressHouse$SchemaReader" ⟨"ExpressHouse$SchemaReader", "endLoop", "(III)V"⟩ ⟨"ExpressHouse$SchemaReader", "endLoop", "(III)V"⟩ ∈ xBIG := xin_0 (List.mem_of_getElem? (i := 113) rfl) rfl
theorem xw_1365 : Cond.methodLink "ExpressHouse$SchemaReader" 353 ⟨"ExpressHouse$SchemaReader", "endLoop", "(III)V"⟩ ∈ xBIG := xin_9 (List.mem_of_getElem? (i := 22) rfl) rfl
theorem xw_1366 : Cond.instanceMethod ⟨"ExpressHouse$Expressions", "unhide", "()V"⟩ ∈ xBIG := xin_8 (List.mem_of_getElem? (i := 88) rfl) rfl
theorem xw_1367 : Cond.selects "ExpressHouse$Expressions" ⟨"ExpressHouse$Expressions", "unhide", "()V"⟩ ⟨"ExpressHouse$Expressions", "unhide", "()V"⟩ ∈ xBIG := xin_8 (List.mem_of_getElem? (i := 89) rfl) rfl
theorem xw_1368 : Cond.methodLink "ExpressHouse$SchemaReader" 357 ⟨"ExpressHouse$Expressions", "unhide", "()V"⟩ ∈ xBIG := xin_9 (List.mem_of_getElem? (i := 26) rfl) rfl
theorem xw_1369 : Cond.instanceMethod ⟨"ExpressHouse$Expressions", "fact", "()V"⟩ ∈ xBIG := xin_8 (List.mem_of_getElem? (i := 26) rfl) rfl
theorem xw_1370 : Cond.selects "ExpressHouse$Expressions" ⟨"ExpressHouse$Expressions", "fact", "()V"⟩ ⟨"ExpressHouse$Expressions", "fact", "()V"⟩ ∈ xBIG := xin_0 (List.mem_of_getElem? (i := 74) rfl) rfl
theorem xw_1371 : Cond.methodLink "ExpressHouse$Expressions" 115 ⟨"ExpressHouse$Expressions", "fact", "()V"⟩ ∈ xBIG := xin_8 (List.mem_of_getElem? (i := 24) rfl) rfl
theorem xw_1372 : Cond.methodLink "ExpressHouse$Expressions" 118 ⟨"ExpressHouse$Expressions", "isTermSign", "(I)Z"⟩ ∈ xBIG := xin_8 (List.mem_of_getElem? (i := 135) rfl) rfl
theorem xw_1373 : Cond.static ⟨"ExpressHouse$Expressions", "isTermSign", "(I)Z"⟩ ∈ xBIG := xin_8 (List.mem_of_getElem? (i := 136) rfl) rfl
theorem xw_1374 : Cond.constantLong "ExpressHouse$Reals" 65 (Int64.ofNat 4841369599423283200) ∈ xBIG := xin_5 (List.mem_of_getElem? (i := 49) rfl) rfl
theorem xw_1375 : Cond.methodLink "ExpressHouse$FileWriter" 123 ⟨"ExpressHouse$Reals", "isNan", "(J)Z"⟩ ∈ xBIG := xin_6 (List.mem_of_getElem? (i := 169) rfl) rfl
theorem xw_1376 : Cond.constantLong "ExpressHouse$FileWriter" 129 (Int64.ofNat 9223372036854775807) ∈ xBIG := xin_6 (List.mem_of_getElem? (i := 170) rfl) rfl
theorem xw_1377 : Cond.methodLink "ExpressHouse$FileWriter" 131 ⟨"ExpressHouse$Reals", "toDouble", "(J)D"⟩ ∈ xBIG := xin_6 (List.mem_of_getElem? (i := 171) rfl) rfl
theorem xw_1378 : Cond.constantLong "ExpressHouse$FileWriter" 139 (Int64.ofNat 1000000) ∈ xBIG := xin_6 (List.mem_of_getElem? (i := 174) rfl) rfl
theorem xw_1379 : Cond.instanceMethod ⟨"ExpressHouse$FileWriter", "decimal", "(ZJJ)V"⟩ ∈ xBIG := xin_6 (List.mem_of_getElem? (i := 177) rfl) rfl
theorem xw_1380 : Cond.selects "ExpressHouse$FileWriter" ⟨"ExpressHouse$FileWriter", "decimal", "(ZJJ)V"⟩ ⟨"ExpressHouse$FileWriter", "decimal", "(ZJJ)V"⟩ ∈ xBIG := xin_0 (List.mem_of_getElem? (i := 54) rfl) rfl
theorem xw_1381 : Cond.methodLink "ExpressHouse$FileWriter" 141 ⟨"ExpressHouse$FileWriter", "decimal", "(ZJJ)V"⟩ ∈ xBIG := xin_6 (List.mem_of_getElem? (i := 175) rfl) rfl
theorem xw_1382 : Cond.constantLong "ExpressHouse$FileWriter" 145 (Int64.ofNat 15) ∈ xBIG := xin_6 (List.mem_of_getElem? (i := 179) rfl) rfl
theorem xw_1383 : Cond.methodLink "ExpressHouse$FileReader" 248 ⟨"ExpressHouse$Reals", "clean", "(J)J"⟩ ∈ xBIG := xin_10 (List.mem_of_getElem? (i := 21) rfl) rfl
theorem xw_1384 : Cond.static ⟨"ExpressHouse$Reals", "clean", "(J)J"⟩ ∈ xBIG := xin_10 (List.mem_of_getElem? (i := 22) rfl) rfl
theorem xw_1385 : Cond.constantLong "ExpressHouse$FileReader" 254 (Int64.ofNat 2) ∈ xBIG := xin_10 (List.mem_of_getElem? (i := 28) rfl) rfl
theorem xw_1386 : Cond.instanceMethod ⟨"ExpressHouse$FileReader", "digits", "(JI)J"⟩ ∈ xBIG := xin_10 (List.mem_of_getElem? (i := 35) rfl) rfl
theorem xw_1387 : Cond.selects "ExpressHouse$FileReader" ⟨"ExpressHouse$FileReader", "digits", "(JI)J"⟩ ⟨"ExpressHouse$FileReader", "digits", "(JI)J"⟩ ∈ xBIG := xin_0 (List.mem_of_getElem? (i := 140) rfl) rfl
theorem xw_1388 : Cond.methodLink "ExpressHouse$FileReader" 256 ⟨"ExpressHouse$FileReader", "digits", "(JI)J"⟩ ∈ xBIG := xin_10 (List.mem_of_getElem? (i := 33) rfl) rfl
theorem xw_1389 : Cond.constantLong "ExpressHouse$FileReader" 260 (Int64.ofNat 10) ∈ xBIG := xin_10 (List.mem_of_getElem? (i := 37) rfl) rfl
theorem xw_1390 : Cond.methodLink "ExpressHouse$FileReader" 262 ⟨"ExpressHouse$Reals", "ofDecimal", "(JJ)J"⟩ ∈ xBIG := xin_10 (List.mem_of_getElem? (i := 39) rfl) rfl
theorem xw_1391 : Cond.constantLong "ExpressHouse$FileReader" 266 (Int64.ofNat 9223372036854775808) ∈ xBIG := xin_10 (List.mem_of_getElem? (i := 40) rfl) rfl
theorem xw_1392 : Cond.methodLink "ExpressHouse$FileReader" 227 ⟨"ExpressHouse$Population", "cellsAlike", "(IJIJ)Z"⟩ ∈ xBIG := xin_10 (List.mem_of_getElem? (i := 60) rfl) rfl
theorem xw_1393 : Cond.fieldLink "ExpressHouse$Expressions" 192 "ExpressHouse$Schema" "attributes" "[[I" ∈ xBIG := xin_1 (List.mem_of_getElem? (i := 194) rfl) rfl
theorem xw_1394 : Cond.fieldLink "ExpressHouse$Expressions" 196 "ExpressHouse$Schema" "entities" "[[I" ∈ xBIG := xin_1 (List.mem_of_getElem? (i := 182) rfl) rfl
theorem xw_1395 : Cond.instanceMethod ⟨"ExpressHouse$Expressions", "part", "(I)V"⟩ ∈ xBIG := xin_8 (List.mem_of_getElem? (i := 34) rfl) rfl
theorem xw_1396 : Cond.selects "ExpressHouse$Expressions" ⟨"ExpressHouse$Expressions", "part", "(I)V"⟩ ⟨"ExpressHouse$Expressions", "part", "(I)V"⟩ ∈ xBIG := xin_0 (List.mem_of_getElem? (i := 75) rfl) rfl
theorem xw_1397 : Cond.methodLink "ExpressHouse$Expressions" 121 ⟨"ExpressHouse$Expressions", "part", "(I)V"⟩ ∈ xBIG := xin_8 (List.mem_of_getElem? (i := 32) rfl) rfl
theorem xw_1398 : Cond.methodLink "ExpressHouse$Expressions" 124 ⟨"ExpressHouse$Tokens", "open", "()V"⟩ ∈ xBIG := xin_8 (List.mem_of_getElem? (i := 40) rfl) rfl
theorem xw_1399 : Cond.methodLink "ExpressHouse$Expressions" 127 ⟨"ExpressHouse$Tokens", "close", "()V"⟩ ∈ xBIG := xin_8 (List.mem_of_getElem? (i := 48) rfl) rfl
theorem xw_1400 : Cond.constantLong "ExpressHouse$FileReader" 268 (Int64.ofNat 48) ∈ xBIG := xin_10 (List.mem_of_getElem? (i := 38) rfl) rfl
theorem xw_1401 : Cond.instanceMethod ⟨"ExpressHouse$Expressions", "base", "(I)V"⟩ ∈ xBIG := xin_8 (List.mem_of_getElem? (i := 38) rfl) rfl
theorem xw_1402 : Cond.selects "ExpressHouse$Expressions" ⟨"ExpressHouse$Expressions", "base", "(I)V"⟩ ⟨"ExpressHouse$Expressions", "base", "(I)V"⟩ ∈ xBIG := xin_0 (List.mem_of_getElem? (i := 76) rfl) rfl
theorem xw_1403 : Cond.methodLink "ExpressHouse$Expressions" 130 ⟨"ExpressHouse$Expressions", "base", "(I)V"⟩ ∈ xBIG := xin_8 (List.mem_of_getElem? (i := 36) rfl) rfl
theorem xw_1404 : Cond.methodLink "ExpressHouse$Expressions" 133 ⟨"ExpressHouse$Tokens", "is", "(I)Z"⟩ ∈ xBIG := xin_8 (List.mem_of_getElem? (i := 69) rfl) rfl
theorem xw_1405 : Cond.instanceMethod ⟨"ExpressHouse$Expressions", "member", "()V"⟩ ∈ xBIG := xin_8 (List.mem_of_getElem? (i := 133) rfl) rfl
theorem xw_1406 : Cond.selects "ExpressHouse$Expressions" ⟨"ExpressHouse$Expressions", "member", "()V"⟩ ⟨"ExpressHouse$Expressions", "member", "()V"⟩ ∈ xBIG := xin_0 (List.mem_of_getElem? (i := 86) rfl) rfl
theorem xw_1407 : Cond.methodLink "ExpressHouse$Expressions" 136 ⟨"ExpressHouse$Expressions", "member", "()V"⟩ ∈ xBIG := xin_8 (List.mem_of_getElem? (i := 131) rfl) rfl
theorem xw_1408 : Cond.instanceMethod ⟨"ExpressHouse$Expressions", "list", "()V"⟩ ∈ xBIG := xin_8 (List.mem_of_getElem? (i := 67) rfl) rfl
theorem xw_1409 : Cond.selects "ExpressHouse$Expressions" ⟨"ExpressHouse$Expressions", "list", "()V"⟩ ⟨"ExpressHouse$Expressions", "list", "()V"⟩ ∈ xBIG := xin_0 (List.mem_of_getElem? (i := 79) rfl) rfl
theorem xw_1410 : Cond.methodLink "ExpressHouse$Expressions" 153 ⟨"ExpressHouse$Expressions", "list", "()V"⟩ ∈ xBIG := xin_8 (List.mem_of_getElem? (i := 65) rfl) rfl
theorem xw_1411 : Cond.instanceMethod ⟨"ExpressHouse$Expressions", "query", "()V"⟩ ∈ xBIG := xin_8 (List.mem_of_getElem? (i := 77) rfl) rfl
theorem xw_1412 : Cond.selects "ExpressHouse$Expressions" ⟨"ExpressHouse$Expressions", "query", "()V"⟩ ⟨"ExpressHouse$Expressions", "query", "()V"⟩ ∈ xBIG := xin_0 (List.mem_of_getElem? (i := 81) rfl) rfl
theorem xw_1413 : Cond.methodLink "ExpressHouse$Expressions" 156 ⟨"ExpressHouse$Expressions", "query", "()V"⟩ ∈ xBIG := xin_8 (List.mem_of_getElem? (i := 75) rfl) rfl
theorem xw_1414 : Cond.instanceMethod ⟨"ExpressHouse$Expressions", "named", "(I)V"⟩ ∈ xBIG := xin_8 (List.mem_of_getElem? (i := 97) rfl) rfl
theorem xw_1415 : Cond.selects "ExpressHouse$Expressions" ⟨"ExpressHouse$Expressions", "named", "(I)V"⟩ ⟨"ExpressHouse$Expressions", "named", "(I)V"⟩ ∈ xBIG := xin_0 (List.mem_of_getElem? (i := 82) rfl) rfl
theorem xw_1416 : Cond.methodLink "ExpressHouse$Expressions" 159 ⟨"ExpressHouse$Expressions", "named", "(I)V"⟩ ∈ xBIG := xin_8 (List.mem_of_getElem? (i := 95) rfl) rfl
theorem xw_1417 : Cond.fieldLink "ExpressHouse$Expressions" 139 "ExpressHouse$Tokens" "value" "J" ∈ xBIG := xin_1 (List.mem_of_getElem? (i := 107) rfl) rfl
theorem xw_1418 : Cond.fieldLink "ExpressHouse$Expressions" 147 "ExpressHouse$Tokens" "place" "I" ∈ xBIG := xin_1 (List.mem_of_getElem? (i := 104) rfl) rfl
theorem xw_1419 : Cond.methodLink "ExpressHouse$Expressions" 162 ⟨"ExpressHouse$Expressions", "startsExp", "(I)Z"⟩ ∈ xBIG := xin_8 (List.mem_of_getElem? (i := 122) rfl) rfl
theorem xw_1420 : Cond.instanceMethod ⟨"ExpressHouse$Expressions", "constant", "(IJI)V"⟩ ∈ xBIG := xin_8 (List.mem_of_getElem? (i := 125) rfl) rfl
theorem xw_1421 : Cond.selects "ExpressHouse$Expressions" ⟨"ExpressHouse$Expressions", "constant", "(IJI)V"⟩ ⟨"ExpressHouse$Expressions", "constant", "(IJI)V"⟩ ∈ xBIG := xin_0 (List.mem_of_getElem? (i := 85) rfl) rfl
theorem xw_1422 : Cond.methodLink "ExpressHouse$Expressions" 165 ⟨"ExpressHouse$Expressions", "constant", "(IJI)V"⟩ ∈ xBIG := xin_8 (List.mem_of_getElem? (i := 123) rfl) rfl
theorem xw_1423 : Cond.methodLink "ExpressHouse$Expressions" 169 ⟨"ExpressHouse$Tokens", "refuse", "()V"⟩ ∈ xBIG := xin_8 (List.mem_of_getElem? (i := 127) rfl) rfl
theorem xw_1424 : Cond.methodLink "ExpressHouse$Expressions" 143 ⟨"ExpressHouse$Schema", "find", "(IJ)I"⟩ ∈ xBIG := xin_8 (List.mem_of_getElem? (i := 103) rfl) rfl
theorem xw_1425 : Cond.methodLink "ExpressHouse$Expressions" 150 ⟨"ExpressHouse$Tokens", "soft", "(II)V"⟩ ∈ xBIG := xin_8 (List.mem_of_getElem? (i := 105) rfl) rfl
theorem xw_1426 : Cond.instanceMethod ⟨"ExpressHouse$Expressions", "some", "()V"⟩ ∈ xBIG := xin_8 (List.mem_of_getElem? (i := 72) rfl) rfl
theorem xw_1427 : Cond.selects "ExpressHouse$Expressions" ⟨"ExpressHouse$Expressions", "some", "()V"⟩ ⟨"ExpressHouse$Expressions", "some", "()V"⟩ ∈ xBIG := xin_0 (List.mem_of_getElem? (i := 80) rfl) rfl
theorem xw_1428 : Cond.methodLink "ExpressHouse$Expressions" 207 ⟨"ExpressHouse$Expressions", "some", "()V"⟩ ∈ xBIG := xin_8 (List.mem_of_getElem? (i := 70) rfl) rfl
theorem xw_1429 : Cond.methodLink "ExpressHouse$Expressions" 210 ⟨"ExpressHouse$Expressions", "hide", "(J)I"⟩ ∈ xBIG := xin_8 (List.mem_of_getElem? (i := 79) rfl) rfl
theorem xw_1430 : Cond.methodLink "ExpressHouse$Expressions" 213 ⟨"ExpressHouse$Expressions", "unhide", "()V"⟩ ∈ xBIG := xin_8 (List.mem_of_getElem? (i := 87) rfl) rfl
theorem xw_1431 : Cond.methodLink "ExpressHouse$Expressions" 216 ⟨"ExpressHouse$Expressions", "patch", "(II)V"⟩ ∈ xBIG := xin_8 (List.mem_of_getElem? (i := 91) rfl) rfl
theorem xw_1432 : Cond.instanceMethod ⟨"ExpressHouse$Expressions", "invocation", "(JI)V"⟩ ∈ xBIG := xin_8 (List.mem_of_getElem? (i := 101) rfl) rfl
theorem xw_1433 : Cond.selects "ExpressHouse$Expressions" ⟨"ExpressHouse$Expressions", "invocation", "(JI)V"⟩ ⟨"ExpressHouse$Expressions", "invocation", "(JI)V"⟩ ∈ xBIG := xin_0 (List.mem_of_getElem? (i := 83) rfl) rfl
theorem xw_1434 : Cond.methodLink "ExpressHouse$Expressions" 172 ⟨"ExpressHouse$Expressions", "invocation", "(JI)V"⟩ ∈ xBIG := xin_8 (List.mem_of_getElem? (i := 99) rfl) rfl
theorem xw_1435 : Cond.instanceMethod ⟨"ExpressHouse$Expressions", "meaning", "(JI)V"⟩ ∈ xBIG := xin_8 (List.mem_of_getElem? (i := 108) rfl) rfl
theorem xw_1436 : Cond.selects "ExpressHouse$Expressions" ⟨"ExpressHouse$Expressions", "meaning", "(JI)V"⟩ ⟨"ExpressHouse$Expressions", "meaning", "(JI)V"⟩ ∈ xBIG := xin_0 (List.mem_of_getElem? (i := 84) rfl) rfl
theorem xw_1437 : Cond.methodLink "ExpressHouse$Expressions" 176 ⟨"ExpressHouse$Expressions", "meaning", "(JI)V"⟩ ∈ xBIG := xin_8 (List.mem_of_getElem? (i := 106) rfl) rfl
theorem xw_1438 : Cond.methodLink "ExpressHouse$Expressions" 199 ⟨"ExpressHouse$Schema", "findBuiltIn", "(J)I"⟩ ∈ xBIG := xin_8 (List.mem_of_getElem? (i := 104) rfl) rfl
theorem xw_1439 : Cond.fieldLink "ExpressHouse$Expressions" 202 "ExpressHouse$Schema" "functions" "[[I" ∈ xBIG := xin_1 (List.mem_of_getElem? (i := 200) rfl) rfl
theorem xw_1440 : Cond.methodLink "ExpressHouse$Expressions" 181 ⟨"ExpressHouse$Expressions", "findHiding", "(J)I"⟩ ∈ xBIG := xin_8 (List.mem_of_getElem? (i := 110) rfl) rfl
theorem xw_1441 : Cond.methodLink "ExpressHouse$Expressions" 185 ⟨"ExpressHouse$Expressions", "findLocal", "(J)I"⟩ ∈ xBIG := xin_8 (List.mem_of_getElem? (i := 114) rfl) rfl
theorem xw_1442 : Cond.methodLink "ExpressHouse$Expressions" 188 ⟨"ExpressHouse$Expressions", "isKnownTo", "(II)Z"⟩ ∈ xBIG := xin_8 (List.mem_of_getElem? (i := 118) rfl) rfl
theorem xw_1443 : Cond.fieldLink "ExpressHouse" 262 "ExpressHouse$Value" "sort" "I" ∈ xBIG := xin_2 (List.mem_of_getElem? (i := 53) rfl) rfl
theorem xw_1444 : Cond.fieldLink "ExpressHouse" 265 "ExpressHouse$Value" "low" "I" ∈ xBIG := xin_2 (List.mem_of_getElem? (i := 57) rfl) rfl
theorem xw_1445 : Cond.fieldLink "ExpressHouse" 275 "ExpressHouse$Value" "bits" "J" ∈ xBIG := xin_2 (List.mem_of_getElem? (i := 47) rfl) rfl
theorem xw_1446 : Cond.methodLink "ExpressHouse" 279 ⟨"ExpressHouse$Value", "bitsAt", "(I)J"⟩ ∈ xBIG := xin_6 (List.mem_of_getElem? (i := 11) rfl) rfl
theorem xw_1447 : Cond.methodLink "ExpressHouse" 286 ⟨"ExpressHouse$Population", "alike", "(LExpressHouse$Value;LExpressHouse$Value;)Z"⟩ ∈ xBIG := xin_6 (List.mem_of_getElem? (i := 20) rfl) rfl
theorem xw_1448 : Cond.fieldLink "ExpressHouse" 353 "ExpressHouse$Judge" "noted" "I" ∈ xBIG := xin_3 (List.mem_of_getElem? (i := 85) rfl) rfl
theorem xw_1449 : Cond.fieldLink "ExpressHouse" 356 "ExpressHouse$Judge" "instances" "[I" ∈ xBIG := xin_3 (List.mem_of_getElem? (i := 81) rfl) rfl
theorem xw_1450 : Cond.fieldLink "ExpressHouse" 359 "ExpressHouse$Judge" "verdicts" "[I" ∈ xBIG := xin_3 (List.mem_of_getElem? (i := 83) rfl) rfl
theorem xw_1451 : Cond.fieldLink "ExpressHouse" 370 "ExpressHouse$FileWriter" "bytes" "[B" ∈ xBIG := xin_3 (List.mem_of_getElem? (i := 176) rfl) rfl
theorem xw_1452 : Cond.instanceMethod ⟨"ExpressHouse$Population", "save", "()Z"⟩ ∈ xBIG := xin_6 (List.mem_of_getElem? (i := 196) rfl) rfl
theorem xw_1453 : Cond.selects "ExpressHouse$Population" ⟨"ExpressHouse$Population", "save", "()Z"⟩ ⟨"ExpressHouse$Population", "save", "()Z"⟩ ∈ xBIG := xin_6 (List.mem_of_getElem? (i := 197) rfl) rfl
theorem xw_1454 : Cond.methodLink "ExpressHouse" 391 ⟨"ExpressHouse$Population", "save", "()Z"⟩ ∈ xBIG := xin_6 (List.mem_of_getElem? (i := 195) rfl) rfl
theorem xw_1455 : Cond.fieldLink "java/lang/String" 38 "java/lang/String" "COMPACT_STRINGS" "Z" ∈ xBIG := xin_1 (List.mem_of_getElem? (i := 49) rfl) rfl
theorem xw_1456 : Cond.fieldLink "java/lang/String" 15 "java/lang/String" "coder" "B" ∈ xBIG := xin_10 (List.mem_of_getElem? (i := 74) rfl) rfl
theorem xw_1457 : Cond.fieldLink "java/lang/String" 9 "java/lang/String" "value" "[B" ∈ xBIG := xin_10 (List.mem_of_getElem? (i := 73) rfl) rfl
theorem xw_1458 : Cond.methodLink "java/lang/String" 335 ⟨"java/lang/String", "coder", "()B"⟩ ∈ xBIG := xin_1 (List.mem_of_getElem? (i := 45) rfl) rfl
theorem xw_1459 : Cond.code ⟨"java/lang/String", "coder", "()B"⟩ prog_42_method_152_code 1 (some .byte) ∈ xBIG := xin_1 (List.mem_of_getElem? (i := 48) rfl) rfl
theorem xw_1460 : Cond.initialized "java/lang/String" ∈ xBIG := xin_1 (List.mem_of_getElem? (i := 3) rfl) rfl
theorem xw_1461 : Cond.instanceMethod ⟨"java/lang/String", "coder", "()B"⟩ ∈ xBIG := xin_1 (List.mem_of_getElem? (i := 46) rfl) rfl
theorem xw_1462 : Cond.selects "java/lang/String" ⟨"java/lang/String", "coder", "()B"⟩ ⟨"java/lang/String", "coder", "()B"⟩ ∈ xBIG := xin_1 (List.mem_of_getElem? (i := 47) rfl) rfl
theorem xw_1463 : Cond.methodLink "java/lang/String" 1059 ⟨"jdk/internal/util/Preconditions", "checkIndex", "(IILjava/util/function/BiFunction;)I"⟩ ∈ xBIG := xin_1 (List.mem_of_getElem? (i := 67) rfl) rfl
theorem xw_1464 : Cond.fieldLink "java/lang/String" 1053 "jdk/internal/util/Preconditions" "SIOOBE_FORMATTER" "Ljava/util/function/BiFunction;" ∈ xBIG := xin_1 (List.mem_of_getElem? (i := 65) rfl) rfl
theorem xw_1465 : Cond.code ⟨"jdk/internal/util/Preconditions", "checkIndex", "(IILjava/util/function/BiFunction;)I"⟩ prog_47_method_11_code 3 (some .int) ∈ xBIG := xin_1 (List.mem_of_getElem? (i := 69) rfl) rfl
theorem xw_1466 : Cond.initialized "jdk/internal/util/Preconditions" ∈ xBIG := xin_1 (List.mem_of_getElem? (i := 5) rfl) rfl
theorem xw_1467 : Cond.static ⟨"jdk/internal/util/Preconditions", "checkIndex", "(IILjava/util/function/BiFunction;)I"⟩ ∈ xBIG := xin_1 (List.mem_of_getElem? (i := 68) rfl) rfl
theorem xw_1468 : Cond.methodLink "java/lang/StringLatin1" 9 ⟨"java/lang/String", "checkIndex", "(II)V"⟩ ∈ xBIG := xin_1 (List.mem_of_getElem? (i := 62) rfl) rfl
theorem xw_1469 : Cond.code ⟨"java/lang/String", "checkIndex", "(II)V"⟩ prog_42_method_155_code 2 none ∈ xBIG := xin_1 (List.mem_of_getElem? (i := 64) rfl) rfl
theorem xw_1470 : Cond.static ⟨"java/lang/String", "checkIndex", "(II)V"⟩ ∈ xBIG := xin_1 (List.mem_of_getElem? (i := 63) rfl) rfl
theorem xw_1471 : Cond.methodLink "java/lang/String" 492 ⟨"java/lang/String", "isLatin1", "()Z"⟩ ∈ xBIG := xin_1 (List.mem_of_getElem? (i := 55) rfl) rfl
theorem xw_1472 : Cond.methodLink "java/lang/String" 495 ⟨"java/lang/StringLatin1", "charAt", "([BI)C"⟩ ∈ xBIG := xin_1 (List.mem_of_getElem? (i := 59) rfl) rfl
theorem xw_1473 : Cond.code ⟨"java/lang/String", "isLatin1", "()Z"⟩ prog_42_method_154_code 1 (some .boolean) ∈ xBIG := xin_1 (List.mem_of_getElem? (i := 58) rfl) rfl
theorem xw_1474 : Cond.instanceMethod ⟨"java/lang/String", "isLatin1", "()Z"⟩ ∈ xBIG := xin_1 (List.mem_of_getElem? (i := 56) rfl) rfl
theorem xw_1475 : Cond.selects "java/lang/String" ⟨"java/lang/String", "isLatin1", "()Z"⟩ ⟨"java/lang/String", "isLatin1", "()Z"⟩ ∈ xBIG := xin_1 (List.mem_of_getElem? (i := 57) rfl) rfl
theorem xw_1476 : Cond.code ⟨"java/lang/StringLatin1", "charAt", "([BI)C"⟩ prog_43_method_2_code 2 (some .char) ∈ xBIG := xin_1 (List.mem_of_getElem? (i := 61) rfl) rfl
theorem xw_1477 : Cond.initialized "java/lang/StringLatin1" ∈ xBIG := xin_1 (List.mem_of_getElem? (i := 4) rfl) rfl
theorem xw_1478 : Cond.static ⟨"java/lang/StringLatin1", "charAt", "([BI)C"⟩ ∈ xBIG := xin_1 (List.mem_of_getElem? (i := 60) rfl) rfl
theorem xw_1479 : Cond.code ⟨"java/lang/String", "length", "()I"⟩ prog_42_method_54_code 1 (some .int) ∈ xBIG := xin_1 (List.mem_of_getElem? (i := 44) rfl) rfl
theorem xw_1480 : Cond.instanceMethod ⟨"java/lang/String", "length", "()I"⟩ ∈ xBIG := xin_1 (List.mem_of_getElem? (i := 42) rfl) rfl
theorem xw_1481 : Cond.selects "java/lang/String" ⟨"java/lang/String", "length", "()I"⟩ ⟨"java/lang/String", "length", "()I"⟩ ∈ xBIG := xin_1 (List.mem_of_getElem? (i := 43) rfl) rfl
theorem xw_1482 : Cond.code ⟨"java/lang/String", "charAt", "(I)C"⟩ prog_42_method_56_code 2 (some .char) ∈ xBIG := xin_1 (List.mem_of_getElem? (i := 54) rfl) rfl
theorem xw_1483 : Cond.instanceMethod ⟨"java/lang/String", "charAt", "(I)C"⟩ ∈ xBIG := xin_1 (List.mem_of_getElem? (i := 52) rfl) rfl
theorem xw_1484 : Cond.selects "java/lang/String" ⟨"java/lang/String", "charAt", "(I)C"⟩ ⟨"java/lang/String", "charAt", "(I)C"⟩ ∈ xBIG := xin_1 (List.mem_of_getElem? (i := 53) rfl) rfl
theorem xw_1485 : Cond.laysFinal "ExpressHouse" "ExpressHouse" "tape" "[B" ∈ xBIG := xin_3 (List.mem_of_getElem? (i := 212) rfl) rfl
theorem xw_1486 : Cond.lays "ExpressHouse" "ExpressHouse" "taped" "I" ∈ xBIG := xin_3 (List.mem_of_getElem? (i := 214) rfl) rfl
theorem xw_1487 : Cond.laysFinal "ExpressHouse" "ExpressHouse" "tokens" "LExpressHouse$Tokens;" ∈ xBIG := xin_3 (List.mem_of_getElem? (i := 216) rfl) rfl
theorem xw_1488 : Cond.laysFinal "ExpressHouse" "ExpressHouse" "people" "LExpressHouse$Population;" ∈ xBIG := xin_3 (List.mem_of_getElem? (i := 218) rfl) rfl
theorem xw_1489 : Cond.laysFinal "ExpressHouse" "ExpressHouse" "expressions" "LExpressHouse$Expressions;" ∈ xBIG := xin_3 (List.mem_of_getElem? (i := 220) rfl) rfl
theorem xw_1490 : Cond.laysFinal "ExpressHouse" "ExpressHouse" "schemas" "LExpressHouse$SchemaReader;" ∈ xBIG := xin_3 (List.mem_of_getElem? (i := 222) rfl) rfl
theorem xw_1491 : Cond.laysFinal "ExpressHouse" "ExpressHouse" "machine" "LExpressHouse$Machine;" ∈ xBIG := xin_3 (List.mem_of_getElem? (i := 224) rfl) rfl
theorem xw_1492 : Cond.laysFinal "ExpressHouse" "ExpressHouse" "referee" "LExpressHouse$Judge;" ∈ xBIG := xin_3 (List.mem_of_getElem? (i := 226) rfl) rfl
theorem xw_1493 : Cond.laysFinal "ExpressHouse" "ExpressHouse" "source" "LExpressHouse$FileReader;" ∈ xBIG := xin_3 (List.mem_of_getElem? (i := 228) rfl) rfl
theorem xw_1494 : Cond.laysFinal "ExpressHouse" "ExpressHouse" "output" "LExpressHouse$FileWriter;" ∈ xBIG := xin_3 (List.mem_of_getElem? (i := 230) rfl) rfl
theorem xw_1495 : Cond.lays "ExpressHouse" "ExpressHouse" "hand" "LExpressHouse$Value;" ∈ xBIG := xin_3 (List.mem_of_getElem? (i := 232) rfl) rfl
theorem xw_1496 : Cond.laysFinal "ExpressHouse" "ExpressHouse" "slots" "[LExpressHouse$Value;" ∈ xBIG := xin_3 (List.mem_of_getElem? (i := 234) rfl) rfl
theorem xw_1497 : Cond.laysFinal "ExpressHouse" "ExpressHouse" "rows" "[LExpressHouse$Value;" ∈ xBIG := xin_3 (List.mem_of_getElem? (i := 236) rfl) rfl
theorem xw_1498 : Cond.lays "ExpressHouse" "ExpressHouse" "latestFault" "I" ∈ xBIG := xin_3 (List.mem_of_getElem? (i := 238) rfl) rfl
theorem xw_1499 : Cond.lays "ExpressHouse" "ExpressHouse" "itemError" "I" ∈ xBIG := xin_4 (List.mem_of_getElem? (i := 0) rfl) rfl
theorem xw_1500 : Cond.laysFinal "ExpressHouse$Tokens" "ExpressHouse$Tokens" "words" "[J" ∈ xBIG := xin_1 (List.mem_of_getElem? (i := 116) rfl) rfl
theorem xw_1501 : Cond.laysFinal "ExpressHouse$Tokens" "ExpressHouse$Tokens" "kinds" "[I" ∈ xBIG := xin_1 (List.mem_of_getElem? (i := 118) rfl) rfl
theorem xw_1502 : Cond.laysFinal "ExpressHouse$Tokens" "ExpressHouse$Tokens" "places" "[I" ∈ xBIG := xin_1 (List.mem_of_getElem? (i := 120) rfl) rfl
theorem xw_1503 : Cond.laysFinal "ExpressHouse$Tokens" "ExpressHouse$Tokens" "values" "[J" ∈ xBIG := xin_1 (List.mem_of_getElem? (i := 122) rfl) rfl
theorem xw_1504 : Cond.lays "ExpressHouse$Tokens" "ExpressHouse$Tokens" "total" "I" ∈ xBIG := xin_1 (List.mem_of_getElem? (i := 124) rfl) rfl
theorem xw_1505 : Cond.lays "ExpressHouse$Tokens" "ExpressHouse$Tokens" "at" "I" ∈ xBIG := xin_1 (List.mem_of_getElem? (i := 126) rfl) rfl
theorem xw_1506 : Cond.lays "ExpressHouse$Tokens" "ExpressHouse$Tokens" "current" "I" ∈ xBIG := xin_1 (List.mem_of_getElem? (i := 128) rfl) rfl
theorem xw_1507 : Cond.lays "ExpressHouse$Tokens" "ExpressHouse$Tokens" "place" "I" ∈ xBIG := xin_1 (List.mem_of_getElem? (i := 130) rfl) rfl
theorem xw_1508 : Cond.lays "ExpressHouse$Tokens" "ExpressHouse$Tokens" "value" "J" ∈ xBIG := xin_1 (List.mem_of_getElem? (i := 132) rfl) rfl
theorem xw_1509 : Cond.lays "ExpressHouse$Tokens" "ExpressHouse$Tokens" "fault" "I" ∈ xBIG := xin_1 (List.mem_of_getElem? (i := 134) rfl) rfl
theorem xw_1510 : Cond.lays "ExpressHouse$Tokens" "ExpressHouse$Tokens" "faultPlace" "I" ∈ xBIG := xin_1 (List.mem_of_getElem? (i := 136) rfl) rfl
theorem xw_1511 : Cond.lays "ExpressHouse$Tokens" "ExpressHouse$Tokens" "softFault" "I" ∈ xBIG := xin_1 (List.mem_of_getElem? (i := 138) rfl) rfl
theorem xw_1512 : Cond.lays "ExpressHouse$Tokens" "ExpressHouse$Tokens" "softPlace" "I" ∈ xBIG := xin_1 (List.mem_of_getElem? (i := 140) rfl) rfl
theorem xw_1513 : Cond.lays "ExpressHouse$Tokens" "ExpressHouse$Tokens" "nodes" "I" ∈ xBIG := xin_1 (List.mem_of_getElem? (i := 142) rfl) rfl
theorem xw_1514 : Cond.lays "ExpressHouse$Tokens" "ExpressHouse$Tokens" "openings" "I" ∈ xBIG := xin_1 (List.mem_of_getElem? (i := 144) rfl) rfl
theorem xw_1515 : Cond.lays "ExpressHouse$Population" "ExpressHouse$Population" "schema" "LExpressHouse$Schema;" ∈ xBIG := xin_2 (List.mem_of_getElem? (i := 115) rfl) rfl
theorem xw_1516 : Cond.laysFinal "ExpressHouse$Population" "ExpressHouse$Population" "nothing" "LExpressHouse$Value;" ∈ xBIG := xin_2 (List.mem_of_getElem? (i := 117) rfl) rfl
theorem xw_1517 : Cond.lays "ExpressHouse$Population" "ExpressHouse$Population" "made" "I" ∈ xBIG := xin_2 (List.mem_of_getElem? (i := 119) rfl) rfl
theorem xw_1518 : Cond.laysFinal "ExpressHouse$Population" "ExpressHouse$Population" "combinations" "[I" ∈ xBIG := xin_2 (List.mem_of_getElem? (i := 121) rfl) rfl
theorem xw_1519 : Cond.laysFinal "ExpressHouse$Population" "ExpressHouse$Population" "held" "[LExpressHouse$Value;" ∈ xBIG := xin_2 (List.mem_of_getElem? (i := 123) rfl) rfl
theorem xw_1520 : Cond.lays "ExpressHouse$Population" "ExpressHouse$Population" "saved" "Z" ∈ xBIG := xin_2 (List.mem_of_getElem? (i := 125) rfl) rfl
theorem xw_1521 : Cond.lays "ExpressHouse$Population" "ExpressHouse$Population" "savedMade" "I" ∈ xBIG := xin_2 (List.mem_of_getElem? (i := 127) rfl) rfl
theorem xw_1522 : Cond.laysFinal "ExpressHouse$Population" "ExpressHouse$Population" "savedCombinations" "[I" ∈ xBIG := xin_2 (List.mem_of_getElem? (i := 129) rfl) rfl
theorem xw_1523 : Cond.laysFinal "ExpressHouse$Population" "ExpressHouse$Population" "savedHeld" "[LExpressHouse$Value;" ∈ xBIG := xin_2 (List.mem_of_getElem? (i := 131) rfl) rfl
theorem xw_1524 : Cond.lays "ExpressHouse$Population" "ExpressHouse$Population" "likenesses" "[I" ∈ xBIG := xin_2 (List.mem_of_getElem? (i := 133) rfl) rfl
theorem xw_1525 : Cond.lays "ExpressHouse$Population" "ExpressHouse$Population" "finer" "[I" ∈ xBIG := xin_2 (List.mem_of_getElem? (i := 135) rfl) rfl
theorem xw_1526 : Cond.lays "ExpressHouse$Population" "ExpressHouse$Population" "stale" "Z" ∈ xBIG := xin_2 (List.mem_of_getElem? (i := 137) rfl) rfl
theorem xw_1527 : Cond.laysFinal "ExpressHouse$Schema" "ExpressHouse$Schema" "builtIn" "[J" ∈ xBIG := xin_1 (List.mem_of_getElem? (i := 220) rfl) rfl
theorem xw_1528 : Cond.laysFinal "ExpressHouse$Schema" "ExpressHouse$Schema" "names" "[[J" ∈ xBIG := xin_1 (List.mem_of_getElem? (i := 222) rfl) rfl
theorem xw_1529 : Cond.laysFinal "ExpressHouse$Schema" "ExpressHouse$Schema" "counts" "[I" ∈ xBIG := xin_1 (List.mem_of_getElem? (i := 224) rfl) rfl
theorem xw_1530 : Cond.laysFinal "ExpressHouse$Schema" "ExpressHouse$Schema" "itemTypes" "[I" ∈ xBIG := xin_1 (List.mem_of_getElem? (i := 226) rfl) rfl
theorem xw_1531 : Cond.laysFinal "ExpressHouse$Schema" "ExpressHouse$Schema" "types" "[[I" ∈ xBIG := xin_1 (List.mem_of_getElem? (i := 228) rfl) rfl
theorem xw_1532 : Cond.laysFinal "ExpressHouse$Schema" "ExpressHouse$Schema" "entities" "[[I" ∈ xBIG := xin_1 (List.mem_of_getElem? (i := 230) rfl) rfl
theorem xw_1533 : Cond.laysFinal "ExpressHouse$Schema" "ExpressHouse$Schema" "uniques" "[J" ∈ xBIG := xin_1 (List.mem_of_getElem? (i := 232) rfl) rfl
theorem xw_1534 : Cond.laysFinal "ExpressHouse$Schema" "ExpressHouse$Schema" "attributes" "[[I" ∈ xBIG := xin_1 (List.mem_of_getElem? (i := 234) rfl) rfl
theorem xw_1535 : Cond.laysFinal "ExpressHouse$Schema" "ExpressHouse$Schema" "kinds" "[[I" ∈ xBIG := xin_1 (List.mem_of_getElem? (i := 236) rfl) rfl
theorem xw_1536 : Cond.laysFinal "ExpressHouse$Schema" "ExpressHouse$Schema" "functions" "[[I" ∈ xBIG := xin_1 (List.mem_of_getElem? (i := 238) rfl) rfl
theorem xw_1537 : Cond.laysFinal "ExpressHouse$Schema" "ExpressHouse$Schema" "wheres" "[I" ∈ xBIG := xin_2 (List.mem_of_getElem? (i := 0) rfl) rfl
theorem xw_1538 : Cond.laysFinal "ExpressHouse$Schema" "ExpressHouse$Schema" "whereStarts" "[I" ∈ xBIG := xin_2 (List.mem_of_getElem? (i := 2) rfl) rfl
theorem xw_1539 : Cond.laysFinal "ExpressHouse$Schema" "ExpressHouse$Schema" "code" "[I" ∈ xBIG := xin_2 (List.mem_of_getElem? (i := 4) rfl) rfl
theorem xw_1540 : Cond.lays "ExpressHouse$Schema" "ExpressHouse$Schema" "codeEnd" "I" ∈ xBIG := xin_2 (List.mem_of_getElem? (i := 6) rfl) rfl
theorem xw_1541 : Cond.lays "ExpressHouse$Schema" "ExpressHouse$Schema" "nodes" "I" ∈ xBIG := xin_2 (List.mem_of_getElem? (i := 8) rfl) rfl
theorem xw_1542 : Cond.laysFinal "ExpressHouse$Schema" "ExpressHouse$Schema" "combinationCounts" "[I" ∈ xBIG := xin_2 (List.mem_of_getElem? (i := 10) rfl) rfl
theorem xw_1543 : Cond.lays "ExpressHouse$Schema" "ExpressHouse$Schema" "counted" "Z" ∈ xBIG := xin_2 (List.mem_of_getElem? (i := 12) rfl) rfl
theorem xw_1544 : Cond.laysFinal "ExpressHouse$Schema" "ExpressHouse$Schema" "overNames" "[I" ∈ xBIG := xin_2 (List.mem_of_getElem? (i := 14) rfl) rfl
theorem xw_1545 : Cond.laysFinal "ExpressHouse$Schema" "ExpressHouse$Schema" "overHits" "[Z" ∈ xBIG := xin_2 (List.mem_of_getElem? (i := 16) rfl) rfl
theorem xw_1546 : Cond.laysFinal "ExpressHouse$Expressions" "ExpressHouse$Expressions" "tokens" "LExpressHouse$Tokens;" ∈ xBIG := xin_2 (List.mem_of_getElem? (i := 160) rfl) rfl
theorem xw_1547 : Cond.lays "ExpressHouse$Expressions" "ExpressHouse$Expressions" "schema" "LExpressHouse$Schema;" ∈ xBIG := xin_2 (List.mem_of_getElem? (i := 162) rfl) rfl
theorem xw_1548 : Cond.lays "ExpressHouse$Expressions" "ExpressHouse$Expressions" "binding" "Z" ∈ xBIG := xin_2 (List.mem_of_getElem? (i := 164) rfl) rfl
theorem xw_1549 : Cond.lays "ExpressHouse$Expressions" "ExpressHouse$Expressions" "top" "I" ∈ xBIG := xin_2 (List.mem_of_getElem? (i := 166) rfl) rfl
theorem xw_1550 : Cond.laysFinal "ExpressHouse$Expressions" "ExpressHouse$Expressions" "hiding" "[J" ∈ xBIG := xin_2 (List.mem_of_getElem? (i := 168) rfl) rfl
theorem xw_1551 : Cond.laysFinal "ExpressHouse$Expressions" "ExpressHouse$Expressions" "hidingSlots" "[I" ∈ xBIG := xin_2 (List.mem_of_getElem? (i := 170) rfl) rfl
theorem xw_1552 : Cond.lays "ExpressHouse$Expressions" "ExpressHouse$Expressions" "hidings" "I" ∈ xBIG := xin_2 (List.mem_of_getElem? (i := 172) rfl) rfl
theorem xw_1553 : Cond.laysFinal "ExpressHouse$Expressions" "ExpressHouse$Expressions" "locals" "[J" ∈ xBIG := xin_2 (List.mem_of_getElem? (i := 174) rfl) rfl
theorem xw_1554 : Cond.lays "ExpressHouse$Expressions" "ExpressHouse$Expressions" "localCount" "I" ∈ xBIG := xin_2 (List.mem_of_getElem? (i := 176) rfl) rfl
theorem xw_1555 : Cond.lays "ExpressHouse$Expressions" "ExpressHouse$Expressions" "slots" "I" ∈ xBIG := xin_2 (List.mem_of_getElem? (i := 178) rfl) rfl
theorem xw_1556 : Cond.lays "ExpressHouse$Expressions" "ExpressHouse$Expressions" "owner" "I" ∈ xBIG := xin_2 (List.mem_of_getElem? (i := 180) rfl) rfl
theorem xw_1557 : Cond.lays "ExpressHouse$Expressions" "ExpressHouse$Expressions" "selfKnown" "Z" ∈ xBIG := xin_2 (List.mem_of_getElem? (i := 182) rfl) rfl
theorem xw_1558 : Cond.laysFinal "ExpressHouse$SchemaReader" "ExpressHouse$SchemaReader" "tokens" "LExpressHouse$Tokens;" ∈ xBIG := xin_2 (List.mem_of_getElem? (i := 203) rfl) rfl
theorem xw_1559 : Cond.laysFinal "ExpressHouse$SchemaReader" "ExpressHouse$SchemaReader" "expressions" "LExpressHouse$Expressions;" ∈ xBIG := xin_2 (List.mem_of_getElem? (i := 205) rfl) rfl
theorem xw_1560 : Cond.lays "ExpressHouse$SchemaReader" "ExpressHouse$SchemaReader" "draft" "LExpressHouse$Schema;" ∈ xBIG := xin_2 (List.mem_of_getElem? (i := 207) rfl) rfl
theorem xw_1561 : Cond.lays "ExpressHouse$SchemaReader" "ExpressHouse$SchemaReader" "pass" "I" ∈ xBIG := xin_2 (List.mem_of_getElem? (i := 209) rfl) rfl
theorem xw_1562 : Cond.laysFinal "ExpressHouse$SchemaReader" "ExpressHouse$SchemaReader" "met" "[I" ∈ xBIG := xin_2 (List.mem_of_getElem? (i := 211) rfl) rfl
theorem xw_1563 : Cond.lays "ExpressHouse$SchemaReader" "ExpressHouse$SchemaReader" "kindsMet" "I" ∈ xBIG := xin_2 (List.mem_of_getElem? (i := 213) rfl) rfl
theorem xw_1564 : Cond.lays "ExpressHouse$SchemaReader" "ExpressHouse$SchemaReader" "statementsMet" "I" ∈ xBIG := xin_2 (List.mem_of_getElem? (i := 215) rfl) rfl
theorem xw_1565 : Cond.lays "ExpressHouse$SchemaReader" "ExpressHouse$SchemaReader" "overSeen" "I" ∈ xBIG := xin_2 (List.mem_of_getElem? (i := 217) rfl) rfl
theorem xw_1566 : Cond.lays "ExpressHouse$SchemaReader" "ExpressHouse$SchemaReader" "loopExit" "I" ∈ xBIG := xin_2 (List.mem_of_getElem? (i := 219) rfl) rfl
theorem xw_1567 : Cond.lays "ExpressHouse$SchemaReader" "ExpressHouse$SchemaReader" "loopNext" "I" ∈ xBIG := xin_2 (List.mem_of_getElem? (i := 221) rfl) rfl
theorem xw_1568 : Cond.laysFinal "ExpressHouse$Machine" "ExpressHouse$Machine" "people" "LExpressHouse$Population;" ∈ xBIG := xin_3 (List.mem_of_getElem? (i := 31) rfl) rfl
theorem xw_1569 : Cond.laysFinal "ExpressHouse$Machine" "ExpressHouse$Machine" "operators" "LExpressHouse$Operators;" ∈ xBIG := xin_3 (List.mem_of_getElem? (i := 33) rfl) rfl
theorem xw_1570 : Cond.laysFinal "ExpressHouse$Machine" "ExpressHouse$Machine" "nothing" "LExpressHouse$Value;" ∈ xBIG := xin_3 (List.mem_of_getElem? (i := 35) rfl) rfl
theorem xw_1571 : Cond.laysFinal "ExpressHouse$Machine" "ExpressHouse$Machine" "stack" "[LExpressHouse$Value;" ∈ xBIG := xin_3 (List.mem_of_getElem? (i := 37) rfl) rfl
theorem xw_1572 : Cond.lays "ExpressHouse$Machine" "ExpressHouse$Machine" "top" "I" ∈ xBIG := xin_3 (List.mem_of_getElem? (i := 39) rfl) rfl
theorem xw_1573 : Cond.laysFinal "ExpressHouse$Machine" "ExpressHouse$Machine" "locals" "[LExpressHouse$Value;" ∈ xBIG := xin_3 (List.mem_of_getElem? (i := 41) rfl) rfl
theorem xw_1574 : Cond.laysFinal "ExpressHouse$Machine" "ExpressHouse$Machine" "subjects" "[LExpressHouse$Value;" ∈ xBIG := xin_3 (List.mem_of_getElem? (i := 43) rfl) rfl
theorem xw_1575 : Cond.laysFinal "ExpressHouse$Machine" "ExpressHouse$Machine" "positions" "[I" ∈ xBIG := xin_3 (List.mem_of_getElem? (i := 45) rfl) rfl
theorem xw_1576 : Cond.laysFinal "ExpressHouse$Machine" "ExpressHouse$Machine" "ends" "[I" ∈ xBIG := xin_3 (List.mem_of_getElem? (i := 47) rfl) rfl
theorem xw_1577 : Cond.laysFinal "ExpressHouse$Machine" "ExpressHouse$Machine" "strides" "[I" ∈ xBIG := xin_3 (List.mem_of_getElem? (i := 49) rfl) rfl
theorem xw_1578 : Cond.lays "ExpressHouse$Machine" "ExpressHouse$Machine" "frames" "I" ∈ xBIG := xin_3 (List.mem_of_getElem? (i := 51) rfl) rfl
theorem xw_1579 : Cond.laysFinal "ExpressHouse$Machine" "ExpressHouse$Machine" "returns" "[I" ∈ xBIG := xin_3 (List.mem_of_getElem? (i := 53) rfl) rfl
theorem xw_1580 : Cond.laysFinal "ExpressHouse$Machine" "ExpressHouse$Machine" "results" "[I" ∈ xBIG := xin_3 (List.mem_of_getElem? (i := 55) rfl) rfl
theorem xw_1581 : Cond.laysFinal "ExpressHouse$Machine" "ExpressHouse$Machine" "floors" "[I" ∈ xBIG := xin_3 (List.mem_of_getElem? (i := 57) rfl) rfl
theorem xw_1582 : Cond.laysFinal "ExpressHouse$Machine" "ExpressHouse$Machine" "selves" "[LExpressHouse$Value;" ∈ xBIG := xin_3 (List.mem_of_getElem? (i := 59) rfl) rfl
theorem xw_1583 : Cond.lays "ExpressHouse$Machine" "ExpressHouse$Machine" "at" "I" ∈ xBIG := xin_3 (List.mem_of_getElem? (i := 61) rfl) rfl
theorem xw_1584 : Cond.lays "ExpressHouse$Machine" "ExpressHouse$Machine" "spent" "Z" ∈ xBIG := xin_3 (List.mem_of_getElem? (i := 63) rfl) rfl
theorem xw_1585 : Cond.lays "ExpressHouse$Machine" "ExpressHouse$Machine" "limit" "I" ∈ xBIG := xin_3 (List.mem_of_getElem? (i := 65) rfl) rfl
theorem xw_1586 : Cond.lays "ExpressHouse$Machine" "ExpressHouse$Machine" "made" "I" ∈ xBIG := xin_3 (List.mem_of_getElem? (i := 67) rfl) rfl
theorem xw_1587 : Cond.lays "ExpressHouse$Machine" "ExpressHouse$Machine" "madeInAll" "I" ∈ xBIG := xin_3 (List.mem_of_getElem? (i := 69) rfl) rfl
theorem xw_1588 : Cond.laysFinal "ExpressHouse$Judge" "ExpressHouse$Judge" "people" "LExpressHouse$Population;" ∈ xBIG := xin_3 (List.mem_of_getElem? (i := 87) rfl) rfl
theorem xw_1589 : Cond.laysFinal "ExpressHouse$Judge" "ExpressHouse$Judge" "machine" "LExpressHouse$Machine;" ∈ xBIG := xin_3 (List.mem_of_getElem? (i := 89) rfl) rfl
theorem xw_1590 : Cond.laysFinal "ExpressHouse$Judge" "ExpressHouse$Judge" "instances" "[I" ∈ xBIG := xin_3 (List.mem_of_getElem? (i := 91) rfl) rfl
theorem xw_1591 : Cond.laysFinal "ExpressHouse$Judge" "ExpressHouse$Judge" "verdicts" "[I" ∈ xBIG := xin_3 (List.mem_of_getElem? (i := 93) rfl) rfl
theorem xw_1592 : Cond.lays "ExpressHouse$Judge" "ExpressHouse$Judge" "noted" "I" ∈ xBIG := xin_3 (List.mem_of_getElem? (i := 95) rfl) rfl
theorem xw_1593 : Cond.lays "ExpressHouse$Judge" "ExpressHouse$Judge" "verdict" "I" ∈ xBIG := xin_3 (List.mem_of_getElem? (i := 97) rfl) rfl
theorem xw_1594 : Cond.laysFinal "ExpressHouse$FileReader" "ExpressHouse$FileReader" "people" "LExpressHouse$Population;" ∈ xBIG := xin_3 (List.mem_of_getElem? (i := 127) rfl) rfl
theorem xw_1595 : Cond.laysFinal "ExpressHouse$FileReader" "ExpressHouse$FileReader" "tokens" "LExpressHouse$Tokens;" ∈ xBIG := xin_3 (List.mem_of_getElem? (i := 129) rfl) rfl
theorem xw_1596 : Cond.lays "ExpressHouse$FileReader" "ExpressHouse$FileReader" "text" "[B" ∈ xBIG := xin_3 (List.mem_of_getElem? (i := 131) rfl) rfl
theorem xw_1597 : Cond.lays "ExpressHouse$FileReader" "ExpressHouse$FileReader" "length" "I" ∈ xBIG := xin_3 (List.mem_of_getElem? (i := 133) rfl) rfl
theorem xw_1598 : Cond.lays "ExpressHouse$FileReader" "ExpressHouse$FileReader" "at" "I" ∈ xBIG := xin_3 (List.mem_of_getElem? (i := 135) rfl) rfl
theorem xw_1599 : Cond.lays "ExpressHouse$FileReader" "ExpressHouse$FileReader" "sensing" "Z" ∈ xBIG := xin_3 (List.mem_of_getElem? (i := 137) rfl) rfl
theorem xw_1600 : Cond.lays "ExpressHouse$FileReader" "ExpressHouse$FileReader" "fault" "I" ∈ xBIG := xin_3 (List.mem_of_getElem? (i := 139) rfl) rfl
theorem xw_1601 : Cond.lays "ExpressHouse$FileReader" "ExpressHouse$FileReader" "faultPlace" "I" ∈ xBIG := xin_3 (List.mem_of_getElem? (i := 141) rfl) rfl
theorem xw_1602 : Cond.laysFinal "ExpressHouse$FileReader" "ExpressHouse$FileReader" "numbers" "[I" ∈ xBIG := xin_3 (List.mem_of_getElem? (i := 143) rfl) rfl
theorem xw_1603 : Cond.laysFinal "ExpressHouse$FileReader" "ExpressHouse$FileReader" "combinations" "[I" ∈ xBIG := xin_3 (List.mem_of_getElem? (i := 145) rfl) rfl
theorem xw_1604 : Cond.laysFinal "ExpressHouse$FileReader" "ExpressHouse$FileReader" "sound" "[Z" ∈ xBIG := xin_3 (List.mem_of_getElem? (i := 147) rfl) rfl
theorem xw_1605 : Cond.lays "ExpressHouse$FileReader" "ExpressHouse$FileReader" "entries" "I" ∈ xBIG := xin_3 (List.mem_of_getElem? (i := 149) rfl) rfl
theorem xw_1606 : Cond.lays "ExpressHouse$FileReader" "ExpressHouse$FileReader" "entry" "I" ∈ xBIG := xin_3 (List.mem_of_getElem? (i := 151) rfl) rfl
theorem xw_1607 : Cond.lays "ExpressHouse$FileReader" "ExpressHouse$FileReader" "named" "I" ∈ xBIG := xin_3 (List.mem_of_getElem? (i := 153) rfl) rfl
theorem xw_1608 : Cond.lays "ExpressHouse$FileReader" "ExpressHouse$FileReader" "kind" "I" ∈ xBIG := xin_3 (List.mem_of_getElem? (i := 155) rfl) rfl
theorem xw_1609 : Cond.lays "ExpressHouse$FileReader" "ExpressHouse$FileReader" "bits" "J" ∈ xBIG := xin_3 (List.mem_of_getElem? (i := 157) rfl) rfl
theorem xw_1610 : Cond.laysFinal "ExpressHouse$FileReader" "ExpressHouse$FileReader" "cells" "[J" ∈ xBIG := xin_3 (List.mem_of_getElem? (i := 159) rfl) rfl
theorem xw_1611 : Cond.laysFinal "ExpressHouse$FileReader" "ExpressHouse$FileReader" "toldNumbers" "[I" ∈ xBIG := xin_3 (List.mem_of_getElem? (i := 161) rfl) rfl
theorem xw_1612 : Cond.lays "ExpressHouse$FileReader" "ExpressHouse$FileReader" "toldCount" "I" ∈ xBIG := xin_3 (List.mem_of_getElem? (i := 163) rfl) rfl
theorem xw_1613 : Cond.lays "ExpressHouse$FileReader" "ExpressHouse$FileReader" "toldFirst" "I" ∈ xBIG := xin_3 (List.mem_of_getElem? (i := 165) rfl) rfl
theorem xw_1614 : Cond.laysFinal "ExpressHouse$FileWriter" "ExpressHouse$FileWriter" "people" "LExpressHouse$Population;" ∈ xBIG := xin_3 (List.mem_of_getElem? (i := 181) rfl) rfl
theorem xw_1615 : Cond.lays "ExpressHouse$FileWriter" "ExpressHouse$FileWriter" "bytes" "[B" ∈ xBIG := xin_3 (List.mem_of_getElem? (i := 183) rfl) rfl
theorem xw_1616 : Cond.lays "ExpressHouse$FileWriter" "ExpressHouse$FileWriter" "size" "I" ∈ xBIG := xin_3 (List.mem_of_getElem? (i := 185) rfl) rfl
theorem xw_1617 : Cond.lays "ExpressHouse$FileWriter" "ExpressHouse$FileWriter" "draft" "[B" ∈ xBIG := xin_3 (List.mem_of_getElem? (i := 187) rfl) rfl
theorem xw_1618 : Cond.lays "ExpressHouse$FileWriter" "ExpressHouse$FileWriter" "drafted" "I" ∈ xBIG := xin_3 (List.mem_of_getElem? (i := 189) rfl) rfl
theorem xw_1619 : Cond.laysFinal "ExpressHouse$Value" "ExpressHouse$Value" "kind" "I" ∈ xBIG := xin_2 (List.mem_of_getElem? (i := 74) rfl) rfl
theorem xw_1620 : Cond.laysFinal "ExpressHouse$Value" "ExpressHouse$Value" "bits" "J" ∈ xBIG := xin_2 (List.mem_of_getElem? (i := 76) rfl) rfl
theorem xw_1621 : Cond.laysFinal "ExpressHouse$Value" "ExpressHouse$Value" "sort" "I" ∈ xBIG := xin_2 (List.mem_of_getElem? (i := 78) rfl) rfl
theorem xw_1622 : Cond.laysFinal "ExpressHouse$Value" "ExpressHouse$Value" "low" "I" ∈ xBIG := xin_2 (List.mem_of_getElem? (i := 80) rfl) rfl
theorem xw_1623 : Cond.laysFinal "ExpressHouse$Value" "ExpressHouse$Value" "lane" "I" ∈ xBIG := xin_2 (List.mem_of_getElem? (i := 82) rfl) rfl
theorem xw_1624 : Cond.laysFinal "ExpressHouse$Value" "ExpressHouse$Value" "holes" "I" ∈ xBIG := xin_2 (List.mem_of_getElem? (i := 84) rfl) rfl
theorem xw_1625 : Cond.laysFinal "ExpressHouse$Value" "ExpressHouse$Value" "cells" "[J" ∈ xBIG := xin_2 (List.mem_of_getElem? (i := 86) rfl) rfl
theorem xw_1626 : Cond.laysFinal "ExpressHouse$Operators" "ExpressHouse$Operators" "people" "LExpressHouse$Population;" ∈ xBIG := xin_3 (List.mem_of_getElem? (i := 0) rfl) rfl
theorem xw_1627 : Cond.laysFinal "ExpressHouse$Operators" "ExpressHouse$Operators" "nothing" "LExpressHouse$Value;" ∈ xBIG := xin_3 (List.mem_of_getElem? (i := 2) rfl) rfl
theorem xw_1628 : Cond.laysFinal "ExpressHouse$Operators" "ExpressHouse$Operators" "room" "[J" ∈ xBIG := xin_3 (List.mem_of_getElem? (i := 4) rfl) rfl
theorem xw_1629 : Cond.code ⟨"ExpressHouse", "<init>", "()V"⟩ prog_1_method_1_code 1 none ∈ xBIG := xin_1 (List.mem_of_getElem? (i := 27) rfl) rfl
theorem xw_1630 : Cond.code ⟨"ExpressHouseLaw", "cell", "([II)I"⟩ method_2_code 2 (some .int) ∈ xBIG := xin_6 (List.mem_of_getElem? (i := 210) rfl) rfl
theorem xw_1631 : Cond.code ⟨"ExpressHouseLaw", "low", "(II)I"⟩ method_3_code 2 (some .int) ∈ xBIG := xin_6 (List.mem_of_getElem? (i := 214) rfl) rfl
theorem xw_1632 : Cond.code ⟨"ExpressHouseLaw", "tell", "(LExpressHouse;)Z"⟩ method_6_code 1 (some .boolean) ∈ xBIG := xin_6 (List.mem_of_getElem? (i := 218) rfl) rfl
theorem xw_1633 : Cond.code ⟨"ExpressHouseLaw", "call", "(LExpressHouse;I)I"⟩ method_8_code 5 (some .int) ∈ xBIG := xin_9 (List.mem_of_getElem? (i := 85) rfl) rfl
theorem xw_1634 : Cond.code ⟨"ExpressHouseLaw", "putNumber", "(LExpressHouse;I)Z"⟩ method_5_code 5 (some .boolean) ∈ xBIG := xin_9 (List.mem_of_getElem? (i := 104) rfl) rfl
theorem xw_1635 : Cond.code ⟨"ExpressHouseLaw", "put", "(LExpressHouse;I)Z"⟩ method_4_code 2 (some .boolean) ∈ xBIG := xin_9 (List.mem_of_getElem? (i := 107) rfl) rfl
theorem xw_1636 : Cond.code ⟨"ExpressHouseLaw", "done", "(LExpressHouse;I)I"⟩ method_7_code 3 (some .int) ∈ xBIG := xin_9 (List.mem_of_getElem? (i := 125) rfl) rfl
theorem xw_1637 : Cond.code ⟨"ExpressHouseLaw", "refuses", "(LExpressHouse;I)Z"⟩ method_9_code 4 (some .boolean) ∈ xBIG := xin_9 (List.mem_of_getElem? (i := 147) rfl) rfl
theorem xw_1638 : Cond.code ⟨"ExpressHouse$Tokens", "<init>", "()V"⟩ prog_12_method_1_code 1 none ∈ xBIG := xin_1 (List.mem_of_getElem? (i := 35) rfl) rfl
theorem xw_1639 : Cond.code ⟨"ExpressHouse$Schema", "<init>", "()V"⟩ prog_10_method_1_code 1 none ∈ xBIG := xin_1 (List.mem_of_getElem? (i := 156) rfl) rfl
theorem xw_1640 : Cond.code ⟨"ExpressHouse$Population", "<init>", "(LExpressHouse$Schema;)V"⟩ prog_8_method_1_code 3 none ∈ xBIG := xin_2 (List.mem_of_getElem? (i := 22) rfl) rfl
theorem xw_1641 : Cond.code ⟨"ExpressHouse$Expressions", "<init>", "(LExpressHouse$Tokens;LExpressHouse$Schema;)V"⟩ prog_2_method_1_code 3 none ∈ xBIG := xin_2 (List.mem_of_getElem? (i := 144) rfl) rfl
theorem xw_1642 : Cond.code ⟨"ExpressHouse$SchemaReader", "<init>", "(LExpressHouse$Tokens;LExpressHouse$Expressions;)V"⟩ prog_11_method_1_code 3 none ∈ xBIG := xin_2 (List.mem_of_getElem? (i := 189) rfl) rfl
theorem xw_1643 : Cond.code ⟨"ExpressHouse$Machine", "<init>", "(LExpressHouse$Population;)V"⟩ prog_6_method_1_code 3 none ∈ xBIG := xin_2 (List.mem_of_getElem? (i := 228) rfl) rfl
theorem xw_1644 : Cond.code ⟨"ExpressHouse$Judge", "<init>", "(LExpressHouse$Population;LExpressHouse$Machine;)V"⟩ prog_5_method_1_code 3 none ∈ xBIG := xin_3 (List.mem_of_getElem? (i := 76) rfl) rfl
theorem xw_1645 : Cond.code ⟨"ExpressHouse$FileReader", "<init>", "(LExpressHouse$Population;LExpressHouse$Tokens;)V"⟩ prog_3_method_1_code 3 none ∈ xBIG := xin_3 (List.mem_of_getElem? (i := 104) rfl) rfl
theorem xw_1646 : Cond.code ⟨"ExpressHouse$FileWriter", "<init>", "(LExpressHouse$Population;)V"⟩ prog_4_method_1_code 2 none ∈ xBIG := xin_3 (List.mem_of_getElem? (i := 172) rfl) rfl
theorem xw_1647 : Cond.code ⟨"ExpressHouse$Value", "<init>", "(IJ)V"⟩ prog_13_method_1_code 4 none ∈ xBIG := xin_2 (List.mem_of_getElem? (i := 28) rfl) rfl
theorem xw_1648 : Cond.code ⟨"ExpressHouse", "emptyHands", "()V"⟩ prog_1_method_6_code 2 none ∈ xBIG := xin_3 (List.mem_of_getElem? (i := 197) rfl) rfl
theorem xw_1649 : Cond.code ⟨"ExpressHouse", "feed", "(IIIII)I"⟩ prog_1_method_2_code 6 (some .int) ∈ xBIG := xin_6 (List.mem_of_getElem? (i := 227) rfl) rfl
theorem xw_1650 : Cond.code ⟨"ExpressHouse", "cut", "(I)I"⟩ prog_1_method_4_code 2 (some .int) ∈ xBIG := xin_7 (List.mem_of_getElem? (i := 57) rfl) rfl
theorem xw_1651 : Cond.code ⟨"ExpressHouse", "schema", "()I"⟩ prog_1_method_5_code 2 (some .int) ∈ xBIG := xin_7 (List.mem_of_getElem? (i := 61) rfl) rfl
theorem xw_1652 : Cond.code ⟨"ExpressHouse", "make", "(I)I"⟩ prog_1_method_14_code 3 (some .int) ∈ xBIG := xin_9 (List.mem_of_getElem? (i := 89) rfl) rfl
theorem xw_1653 : Cond.code ⟨"ExpressHouse", "set", "(II)I"⟩ prog_1_method_17_code 6 (some .int) ∈ xBIG := xin_9 (List.mem_of_getElem? (i := 111) rfl) rfl
theorem xw_1654 : Cond.code ⟨"ExpressHouse", "drop", "(I)I"⟩ prog_1_method_15_code 2 (some .int) ∈ xBIG := xin_9 (List.mem_of_getElem? (i := 129) rfl) rfl
theorem xw_1655 : Cond.code ⟨"ExpressHouse", "get", "(II)I"⟩ prog_1_method_19_code 3 (some .int) ∈ xBIG := xin_4 (List.mem_of_getElem? (i := 78) rfl) rfl
theorem xw_1656 : Cond.code ⟨"ExpressHouse", "judge", "(I)I"⟩ prog_1_method_37_code 4 (some .int) ∈ xBIG := xin_6 (List.mem_of_getElem? (i := 24) rfl) rfl
theorem xw_1657 : Cond.code ⟨"ExpressHouse", "work", "()I"⟩ prog_1_method_21_code 2 (some .int) ∈ xBIG := xin_9 (List.mem_of_getElem? (i := 142) rfl) rfl
theorem xw_1658 : Cond.code ⟨"ExpressHouse", "write", "()I"⟩ prog_1_method_39_code 2 (some .int) ∈ xBIG := xin_6 (List.mem_of_getElem? (i := 120) rfl) rfl
theorem xw_1659 : Cond.code ⟨"ExpressHouse", "count", "(I)I"⟩ prog_1_method_8_code 3 (some .int) ∈ xBIG := xin_4 (List.mem_of_getElem? (i := 6) rfl) rfl
theorem xw_1660 : Cond.code ⟨"ExpressHouse", "row", "(I)I"⟩ prog_1_method_16_code 2 (some .int) ∈ xBIG := xin_4 (List.mem_of_getElem? (i := 70) rfl) rfl
theorem xw_1661 : Cond.code ⟨"ExpressHouse", "keep", "(I)I"⟩ prog_1_method_25_code 2 (some .int) ∈ xBIG := xin_6 (List.mem_of_getElem? (i := 15) rfl) rfl
theorem xw_1662 : Cond.code ⟨"ExpressHouse", "commit", "()I"⟩ prog_1_method_44_code 1 (some .int) ∈ xBIG := xin_9 (List.mem_of_getElem? (i := 151) rfl) rfl
theorem xw_1663 : Cond.code ⟨"ExpressHouse", "abort", "()I"⟩ prog_1_method_45_code 2 (some .int) ∈ xBIG := xin_6 (List.mem_of_getElem? (i := 203) rfl) rfl
theorem xw_1664 : Cond.code ⟨"ExpressHouse", "take", "(I)I"⟩ prog_1_method_27_code 2 (some .int) ∈ xBIG := xin_9 (List.mem_of_getElem? (i := 159) rfl) rfl
theorem xw_1665 : Cond.code ⟨"ExpressHouse", "combinations", "(I)I"⟩ prog_1_method_13_code 2 (some .int) ∈ xBIG := xin_4 (List.mem_of_getElem? (i := 54) rfl) rfl
theorem xw_1666 : Cond.code ⟨"ExpressHouse", "fault", "()I"⟩ prog_1_method_7_code 1 (some .int) ∈ xBIG := xin_9 (List.mem_of_getElem? (i := 165) rfl) rfl
theorem xw_1667 : Cond.code ⟨"ExpressHouse", "read", "()I"⟩ prog_1_method_41_code 3 (some .int) ∈ xBIG := xin_9 (List.mem_of_getElem? (i := 171) rfl) rfl
theorem xw_1668 : Cond.code ⟨"ExpressHouse$Tokens", "codesOf", "(Ljava/lang/String;)[J"⟩ prog_12_method_2_code 5 (some (.array (.long))) ∈ xBIG := xin_1 (List.mem_of_getElem? (i := 40) rfl) rfl
theorem xw_1669 : Cond.code ⟨"ExpressHouse$Operators", "<init>", "(LExpressHouse$Population;)V"⟩ prog_7_method_1_code 2 none ∈ xBIG := xin_2 (List.mem_of_getElem? (i := 235) rfl) rfl
theorem xw_1670 : Cond.code ⟨"ExpressHouse", "append", "(I)V"⟩ prog_1_method_3_code 3 none ∈ xBIG := xin_6 (List.mem_of_getElem? (i := 231) rfl) rfl
theorem xw_1671 : Cond.code ⟨"ExpressHouse$Tokens", "load", "([BI)V"⟩ prog_12_method_9_code 8 none ∈ xBIG := xin_7 (List.mem_of_getElem? (i := 65) rfl) rfl
theorem xw_1672 : Cond.code ⟨"ExpressHouse$SchemaReader", "start", "()V"⟩ prog_11_method_3_code 1 none ∈ xBIG := xin_7 (List.mem_of_getElem? (i := 118) rfl) rfl
theorem xw_1673 : Cond.code ⟨"ExpressHouse$SchemaReader", "readThrough", "(I)V"⟩ prog_11_method_4_code 4 none ∈ xBIG := xin_7 (List.mem_of_getElem? (i := 132) rfl) rfl
theorem xw_1674 : Cond.code ⟨"ExpressHouse$Tokens", "outcome", "()I"⟩ prog_12_method_24_code 1 (some .int) ∈ xBIG := xin_9 (List.mem_of_getElem? (i := 69) rfl) rfl
theorem xw_1675 : Cond.code ⟨"ExpressHouse$SchemaReader", "exchange", "(LExpressHouse$Schema;)LExpressHouse$Schema;"⟩ prog_11_method_2_code 3 (some (.object "ExpressHouse$Schema")) ∈ xBIG := xin_9 (List.mem_of_getElem? (i := 73) rfl) rfl
theorem xw_1676 : Cond.code ⟨"ExpressHouse$Population", "clear", "()V"⟩ prog_8_method_2_code 1 none ∈ xBIG := xin_9 (List.mem_of_getElem? (i := 77) rfl) rfl
theorem xw_1677 : Cond.code ⟨"ExpressHouse$Judge", "clear", "()V"⟩ prog_5_method_2_code 1 none ∈ xBIG := xin_6 (List.mem_of_getElem? (i := 40) rfl) rfl
theorem xw_1678 : Cond.code ⟨"ExpressHouse$FileReader", "forget", "()V"⟩ prog_3_method_2_code 1 none ∈ xBIG := xin_9 (List.mem_of_getElem? (i := 82) rfl) rfl
theorem xw_1679 : Cond.code ⟨"ExpressHouse$Schema", "knows", "(I)Z"⟩ prog_10_method_29_code 2 (some .boolean) ∈ xBIG := xin_4 (List.mem_of_getElem? (i := 26) rfl) rfl
theorem xw_1680 : Cond.code ⟨"ExpressHouse$Schema", "reason", "(I)I"⟩ prog_10_method_30_code 3 (some .int) ∈ xBIG := xin_4 (List.mem_of_getElem? (i := 30) rfl) rfl
theorem xw_1681 : Cond.code ⟨"ExpressHouse$Population", "add", "(I)I"⟩ prog_8_method_10_code 3 (some .int) ∈ xBIG := xin_9 (List.mem_of_getElem? (i := 93) rfl) rfl
theorem xw_1682 : Cond.code ⟨"ExpressHouse$Population", "has", "(II)Z"⟩ prog_8_method_7_code 3 (some .boolean) ∈ xBIG := xin_4 (List.mem_of_getElem? (i := 82) rfl) rfl
theorem xw_1683 : Cond.code ⟨"ExpressHouse", "readExpression", "()I"⟩ prog_1_method_18_code 3 (some .int) ∈ xBIG := xin_9 (List.mem_of_getElem? (i := 115) rfl) rfl
theorem xw_1684 : Cond.code ⟨"ExpressHouse$Population", "prepare", "()V"⟩ prog_8_method_22_code 3 none ∈ xBIG := xin_4 (List.mem_of_getElem? (i := 90) rfl) rfl
theorem xw_1685 : Cond.code ⟨"ExpressHouse$Machine", "run", "(ILExpressHouse$Value;)LExpressHouse$Value;"⟩ prog_6_method_2_code 5 (some (.object "ExpressHouse$Value")) ∈ xBIG := xin_4 (List.mem_of_getElem? (i := 141) rfl) rfl
theorem xw_1686 : Cond.code ⟨"ExpressHouse$Population", "converted", "(LExpressHouse$Value;I)LExpressHouse$Value;"⟩ prog_8_method_27_code 9 (some (.object "ExpressHouse$Value")) ∈ xBIG := xin_5 (List.mem_of_getElem? (i := 168) rfl) rfl
theorem xw_1687 : Cond.code ⟨"ExpressHouse$Population", "fits", "(LExpressHouse$Value;I)Z"⟩ prog_8_method_29_code 10 (some .boolean) ∈ xBIG := xin_5 (List.mem_of_getElem? (i := 181) rfl) rfl
theorem xw_1688 : Cond.code ⟨"ExpressHouse$Population", "hold", "(IILExpressHouse$Value;)V"⟩ prog_8_method_9_code 4 none ∈ xBIG := xin_9 (List.mem_of_getElem? (i := 101) rfl) rfl
theorem xw_1689 : Cond.code ⟨"ExpressHouse$Population", "exists", "(I)Z"⟩ prog_8_method_3_code 2 (some .boolean) ∈ xBIG := xin_4 (List.mem_of_getElem? (i := 18) rfl) rfl
theorem xw_1690 : Cond.code ⟨"ExpressHouse$Population", "remove", "(I)V"⟩ prog_8_method_14_code 5 none ∈ xBIG := xin_9 (List.mem_of_getElem? (i := 133) rfl) rfl
theorem xw_1691 : Cond.code ⟨"ExpressHouse$Schema", "codeOfAccess", "(I)I"⟩ prog_10_method_24_code 2 (some .int) ∈ xBIG := xin_4 (List.mem_of_getElem? (i := 133) rfl) rfl
theorem xw_1692 : Cond.code ⟨"ExpressHouse", "runToHand", "(ILExpressHouse$Value;)I"⟩ prog_1_method_20_code 4 (some .int) ∈ xBIG := xin_4 (List.mem_of_getElem? (i := 137) rfl) rfl
theorem xw_1693 : Cond.code ⟨"ExpressHouse$Schema", "ruleCount", "()I"⟩ prog_10_method_26_code 1 (some .int) ∈ xBIG := xin_4 (List.mem_of_getElem? (i := 10) rfl) rfl
theorem xw_1694 : Cond.code ⟨"ExpressHouse$Schema", "ruleOwner", "(I)I"⟩ prog_10_method_28_code 3 (some .int) ∈ xBIG := xin_6 (List.mem_of_getElem? (i := 28) rfl) rfl
theorem xw_1695 : Cond.code ⟨"ExpressHouse$Schema", "ruleSort", "(I)I"⟩ prog_10_method_27_code 3 (some .int) ∈ xBIG := xin_6 (List.mem_of_getElem? (i := 32) rfl) rfl
theorem xw_1696 : Cond.code ⟨"ExpressHouse$Judge", "judgeBounds", "(I)I"⟩ prog_5_method_6_code 3 (some .int) ∈ xBIG := xin_6 (List.mem_of_getElem? (i := 36) rfl) rfl
theorem xw_1697 : Cond.code ⟨"ExpressHouse$Judge", "judgeUnique", "(I)I"⟩ prog_5_method_10_code 3 (some .int) ∈ xBIG := xin_6 (List.mem_of_getElem? (i := 73) rfl) rfl
theorem xw_1698 : Cond.code ⟨"ExpressHouse$Judge", "judgeEntity", "(I)I"⟩ prog_5_method_13_code 6 (some .int) ∈ xBIG := xin_6 (List.mem_of_getElem? (i := 86) rfl) rfl
theorem xw_1699 : Cond.code ⟨"ExpressHouse$Judge", "judgeType", "(I)I"⟩ prog_5_method_14_code 9 (some .int) ∈ xBIG := xin_6 (List.mem_of_getElem? (i := 102) rfl) rfl
theorem xw_1700 : Cond.code ⟨"ExpressHouse$Judge", "judgeText", "(I)I"⟩ prog_5_method_16_code 5 (some .int) ∈ xBIG := xin_6 (List.mem_of_getElem? (i := 112) rfl) rfl
theorem xw_1701 : Cond.code ⟨"ExpressHouse$FileWriter", "start", "()V"⟩ prog_4_method_2_code 1 none ∈ xBIG := xin_6 (List.mem_of_getElem? (i := 124) rfl) rfl
theorem xw_1702 : Cond.code ⟨"ExpressHouse$Population", "rowOf", "(I)I"⟩ prog_8_method_5_code 2 (some .int) ∈ xBIG := xin_4 (List.mem_of_getElem? (i := 74) rfl) rfl
theorem xw_1703 : Cond.code ⟨"ExpressHouse$FileWriter", "instance", "(II)V"⟩ prog_4_method_5_code 5 none ∈ xBIG := xin_6 (List.mem_of_getElem? (i := 129) rfl) rfl
theorem xw_1704 : Cond.code ⟨"ExpressHouse$FileWriter", "finish", "()I"⟩ prog_4_method_3_code 2 (some .int) ∈ xBIG := xin_6 (List.mem_of_getElem? (i := 186) rfl) rfl
theorem xw_1705 : Cond.code ⟨"ExpressHouse$Population", "existing", "()I"⟩ prog_8_method_4_code 3 (some .int) ∈ xBIG := xin_4 (List.mem_of_getElem? (i := 14) rfl) rfl
theorem xw_1706 : Cond.code ⟨"ExpressHouse$Population", "discard", "()Z"⟩ prog_8_method_32_code 2 (some .boolean) ∈ xBIG := xin_9 (List.mem_of_getElem? (i := 155) rfl) rfl
theorem xw_1707 : Cond.code ⟨"ExpressHouse$Population", "restore", "()Z"⟩ prog_8_method_33_code 1 (some .boolean) ∈ xBIG := xin_6 (List.mem_of_getElem? (i := 207) rfl) rfl
theorem xw_1708 : Cond.code ⟨"ExpressHouse$Value", "<init>", "(IIII[J)V"⟩ prog_13_method_2_code 6 none ∈ xBIG := xin_4 (List.mem_of_getElem? (i := 193) rfl) rfl
theorem xw_1709 : Cond.code ⟨"ExpressHouse$Schema", "combinationsWith", "(I)I"⟩ prog_10_method_36_code 2 (some .int) ∈ xBIG := xin_4 (List.mem_of_getElem? (i := 58) rfl) rfl
theorem xw_1710 : Cond.code ⟨"ExpressHouse$FileReader", "start", "([BI)V"⟩ prog_3_method_4_code 3 none ∈ xBIG := xin_9 (List.mem_of_getElem? (i := 175) rfl) rfl
theorem xw_1711 : Cond.code ⟨"ExpressHouse$FileReader", "startReading", "(Z)V"⟩ prog_3_method_5_code 3 none ∈ xBIG := xin_9 (List.mem_of_getElem? (i := 179) rfl) rfl
theorem xw_1712 : Cond.code ⟨"ExpressHouse$FileReader", "goesOn", "()Z"⟩ prog_3_method_6_code 1 (some .boolean) ∈ xBIG := xin_9 (List.mem_of_getElem? (i := 196) rfl) rfl
theorem xw_1713 : Cond.code ⟨"ExpressHouse$FileReader", "entryPart", "()V"⟩ prog_3_method_13_code 4 none ∈ xBIG := xin_9 (List.mem_of_getElem? (i := 200) rfl) rfl
theorem xw_1714 : Cond.code ⟨"ExpressHouse$FileReader", "finish", "()I"⟩ prog_3_method_7_code 1 (some .int) ∈ xBIG := xin_10 (List.mem_of_getElem? (i := 65) rfl) rfl
theorem xw_1715 : Cond.code ⟨"ExpressHouse$Tokens", "digitOf", "(I)I"⟩ prog_12_method_3_code 1 (some .int) ∈ xBIG := xin_1 (List.mem_of_getElem? (i := 92) rfl) rfl
theorem xw_1716 : Cond.code ⟨"ExpressHouse$Tokens", "isBlank", "(I)Z"⟩ prog_12_method_6_code 1 (some .boolean) ∈ xBIG := xin_7 (List.mem_of_getElem? (i := 69) rfl) rfl
theorem xw_1717 : Cond.code ⟨"ExpressHouse$Tokens", "scan", "([BII)I"⟩ prog_12_method_11_code 7 (some .int) ∈ xBIG := xin_7 (List.mem_of_getElem? (i := 73) rfl) rfl
theorem xw_1718 : Cond.code ⟨"ExpressHouse$Tokens", "add", "(IIJ)V"⟩ prog_12_method_10_code 5 none ∈ xBIG := xin_7 (List.mem_of_getElem? (i := 88) rfl) rfl
theorem xw_1719 : Cond.code ⟨"ExpressHouse$Tokens", "rewind", "()V"⟩ prog_12_method_17_code 1 none ∈ xBIG := xin_7 (List.mem_of_getElem? (i := 110) rfl) rfl
theorem xw_1720 : Cond.code ⟨"ExpressHouse$Schema", "clear", "()V"⟩ prog_10_method_3_code 2 none ∈ xBIG := xin_7 (List.mem_of_getElem? (i := 122) rfl) rfl
theorem xw_1721 : Cond.code ⟨"ExpressHouse$Expressions", "startPass", "(LExpressHouse$Schema;Z)V"⟩ prog_2_method_2_code 3 none ∈ xBIG := xin_7 (List.mem_of_getElem? (i := 137) rfl) rfl
theorem xw_1722 : Cond.code ⟨"java/util/Arrays", "fill", "([II)V"⟩ prog_46_method_103_code 4 none ∈ xBIG := xin_4 (List.mem_of_getElem? (i := 65) rfl) rfl
theorem xw_1723 : Cond.code ⟨"ExpressHouse$Tokens", "expect", "(I)V"⟩ prog_12_method_20_code 2 none ∈ xBIG := xin_7 (List.mem_of_getElem? (i := 146) rfl) rfl
theorem xw_1724 : Cond.code ⟨"ExpressHouse$SchemaReader", "type", "()V"⟩ prog_11_method_8_code 3 none ∈ xBIG := xin_7 (List.mem_of_getElem? (i := 151) rfl) rfl
theorem xw_1725 : Cond.code ⟨"ExpressHouse$SchemaReader", "entityPart", "()V"⟩ prog_11_method_19_code 4 none ∈ xBIG := xin_8 (List.mem_of_getElem? (i := 153) rfl) rfl
theorem xw_1726 : Cond.code ⟨"ExpressHouse$SchemaReader", "function", "()V"⟩ prog_11_method_34_code 4 none ∈ xBIG := xin_8 (List.mem_of_getElem? (i := 222) rfl) rfl
theorem xw_1727 : Cond.code ⟨"ExpressHouse$SchemaReader", "textRule", "()V"⟩ prog_11_method_18_code 2 none ∈ xBIG := xin_9 (List.mem_of_getElem? (i := 38) rfl) rfl
theorem xw_1728 : Cond.code ⟨"ExpressHouse$SchemaReader", "finish", "()V"⟩ prog_11_method_5_code 1 none ∈ xBIG := xin_8 (List.mem_of_getElem? (i := 149) rfl) rfl
theorem xw_1729 : Cond.code ⟨"ExpressHouse$Schema", "complete", "()V"⟩ prog_10_method_12_code 4 none ∈ xBIG := xin_9 (List.mem_of_getElem? (i := 43) rfl) rfl
theorem xw_1730 : Cond.code ⟨"ExpressHouse$Schema", "isConnected", "(I)Z"⟩ prog_10_method_31_code 6 (some .boolean) ∈ xBIG := xin_4 (List.mem_of_getElem? (i := 34) rfl) rfl
theorem xw_1731 : Cond.code ⟨"ExpressHouse$Schema", "reasonOfParts", "(I)I"⟩ prog_10_method_32_code 3 (some .int) ∈ xBIG := xin_4 (List.mem_of_getElem? (i := 38) rfl) rfl
theorem xw_1732 : Cond.code ⟨"ExpressHouse$Population", "empty", "(I)V"⟩ prog_8_method_11_code 3 none ∈ xBIG := xin_9 (List.mem_of_getElem? (i := 97) rfl) rfl
theorem xw_1733 : Cond.code ⟨"ExpressHouse$Population", "isA", "(II)Z"⟩ prog_8_method_6_code 3 (some .boolean) ∈ xBIG := xin_4 (List.mem_of_getElem? (i := 86) rfl) rfl
theorem xw_1734 : Cond.code ⟨"ExpressHouse$Expressions", "readAlone", "(LExpressHouse$Schema;)I"⟩ prog_2_method_4_code 2 (some .int) ∈ xBIG := xin_9 (List.mem_of_getElem? (i := 119) rfl) rfl
theorem xw_1735 : Cond.code ⟨"ExpressHouse$Population", "part", "()Z"⟩ prog_8_method_23_code 4 (some .boolean) ∈ xBIG := xin_4 (List.mem_of_getElem? (i := 94) rfl) rfl
theorem xw_1736 : Cond.code ⟨"ExpressHouse$Machine", "openFrame", "(IILExpressHouse$Value;)V"⟩ prog_6_method_8_code 5 none ∈ xBIG := xin_4 (List.mem_of_getElem? (i := 145) rfl) rfl
theorem xw_1737 : Cond.code ⟨"ExpressHouse$Machine", "fetch", "()I"⟩ prog_6_method_3_code 3 (some .int) ∈ xBIG := xin_4 (List.mem_of_getElem? (i := 150) rfl) rfl
theorem xw_1738 : Cond.code ⟨"ExpressHouse$Machine", "plain", "(I)V"⟩ prog_6_method_12_code 5 none ∈ xBIG := xin_4 (List.mem_of_getElem? (i := 154) rfl) rfl
theorem xw_1739 : Cond.code ⟨"ExpressHouse$Machine", "operate", "(I)V"⟩ prog_6_method_13_code 9 none ∈ xBIG := xin_4 (List.mem_of_getElem? (i := 201) rfl) rfl
theorem xw_1740 : Cond.code ⟨"ExpressHouse$Machine", "lead", "(I)V"⟩ prog_6_method_16_code 4 none ∈ xBIG := xin_5 (List.mem_of_getElem? (i := 160) rfl) rfl
theorem xw_1741 : Cond.code ⟨"ExpressHouse$Machine", "pop", "()LExpressHouse$Value;"⟩ prog_6_method_5_code 1 (some (.object "ExpressHouse$Value")) ∈ xBIG := xin_4 (List.mem_of_getElem? (i := 209) rfl) rfl
theorem xw_1742 : Cond.code ⟨"ExpressHouse$Population", "convertedScalar", "(LExpressHouse$Value;I)LExpressHouse$Value;"⟩ prog_8_method_28_code 3 (some (.object "ExpressHouse$Value")) ∈ xBIG := xin_5 (List.mem_of_getElem? (i := 172) rfl) rfl
theorem xw_1743 : Cond.code ⟨"ExpressHouse$Population", "cellsAlike", "(IJIJ)Z"⟩ prog_8_method_26_code 8 (some .boolean) ∈ xBIG := xin_4 (List.mem_of_getElem? (i := 114) rfl) rfl
theorem xw_1744 : Cond.code ⟨"java/util/Arrays", "copyOf", "([JI)[J"⟩ prog_46_method_124_code 3 (some (.array (.long))) ∈ xBIG := xin_4 (List.mem_of_getElem? (i := 179) rfl) rfl
theorem xw_1745 : Cond.code ⟨"ExpressHouse$Population", "isAccepted", "(IIJ)Z"⟩ prog_8_method_30_code 5 (some .boolean) ∈ xBIG := xin_5 (List.mem_of_getElem? (i := 185) rfl) rfl
theorem xw_1746 : Cond.code ⟨"ExpressHouse$Value", "isHole", "(I)Z"⟩ prog_13_method_5_code 2 (some .boolean) ∈ xBIG := xin_4 (List.mem_of_getElem? (i := 129) rfl) rfl
theorem xw_1747 : Cond.code ⟨"ExpressHouse$Population", "heldBy", "(II)LExpressHouse$Value;"⟩ prog_8_method_8_code 3 (some (.object "ExpressHouse$Value")) ∈ xBIG := xin_4 (List.mem_of_getElem? (i := 106) rfl) rfl
theorem xw_1748 : Cond.code ⟨"ExpressHouse$Population", "isHolding", "(LExpressHouse$Value;I)Z"⟩ prog_8_method_15_code 4 (some .boolean) ∈ xBIG := xin_4 (List.mem_of_getElem? (i := 218) rfl) rfl
theorem xw_1749 : Cond.code ⟨"ExpressHouse$Population", "without", "(LExpressHouse$Value;I)LExpressHouse$Value;"⟩ prog_8_method_16_code 8 (some (.object "ExpressHouse$Value")) ∈ xBIG := xin_9 (List.mem_of_getElem? (i := 137) rfl) rfl
theorem xw_1750 : Cond.code ⟨"ExpressHouse$Judge", "isBounded", "(II)Z"⟩ prog_5_method_7_code 6 (some .boolean) ∈ xBIG := xin_6 (List.mem_of_getElem? (i := 45) rfl) rfl
theorem xw_1751 : Cond.code ⟨"ExpressHouse$Judge", "note", "(II)V"⟩ prog_5_method_3_code 3 none ∈ xBIG := xin_6 (List.mem_of_getElem? (i := 63) rfl) rfl
theorem xw_1752 : Cond.code ⟨"ExpressHouse$Judge", "isUnique", "(II)Z"⟩ prog_5_method_11_code 5 (some .boolean) ∈ xBIG := xin_6 (List.mem_of_getElem? (i := 77) rfl) rfl
theorem xw_1753 : Cond.code ⟨"ExpressHouse$Schema", "startOfWhere", "(II)I"⟩ prog_10_method_25_code 4 (some .int) ∈ xBIG := xin_6 (List.mem_of_getElem? (i := 90) rfl) rfl
theorem xw_1754 : Cond.code ⟨"ExpressHouse$Judge", "verdictOf", "(LExpressHouse$Value;)I"⟩ prog_5_method_17_code 2 (some .int) ∈ xBIG := xin_6 (List.mem_of_getElem? (i := 97) rfl) rfl
theorem xw_1755 : Cond.code ⟨"ExpressHouse$Judge", "worse", "(II)I"⟩ prog_5_method_4_code 2 (some .int) ∈ xBIG := xin_6 (List.mem_of_getElem? (i := 66) rfl) rfl
theorem xw_1756 : Cond.code ⟨"ExpressHouse$Judge", "isJust", "(II)Z"⟩ prog_5_method_15_code 4 (some .boolean) ∈ xBIG := xin_6 (List.mem_of_getElem? (i := 107) rfl) rfl
theorem xw_1757 : Cond.code ⟨"ExpressHouse$FileWriter", "add", "(I)V"⟩ prog_4_method_4_code 2 none ∈ xBIG := xin_6 (List.mem_of_getElem? (i := 133) rfl) rfl
theorem xw_1758 : Cond.code ⟨"ExpressHouse$FileWriter", "number", "(J)V"⟩ prog_4_method_10_code 8 none ∈ xBIG := xin_6 (List.mem_of_getElem? (i := 137) rfl) rfl
theorem xw_1759 : Cond.code ⟨"ExpressHouse$FileWriter", "form", "(III)V"⟩ prog_4_method_6_code 6 none ∈ xBIG := xin_6 (List.mem_of_getElem? (i := 143) rfl) rfl
theorem xw_1760 : Cond.code ⟨"ExpressHouse$Schema", "countCombinations", "()V"⟩ prog_10_method_37_code 3 none ∈ xBIG := xin_4 (List.mem_of_getElem? (i := 62) rfl) rfl
theorem xw_1761 : Cond.code ⟨"ExpressHouse$Population", "announce", "(II)V"⟩ prog_8_method_12_code 3 none ∈ xBIG := xin_9 (List.mem_of_getElem? (i := 183) rfl) rfl
theorem xw_1762 : Cond.code ⟨"ExpressHouse$FileReader", "blanks", "()V"⟩ prog_3_method_9_code 2 none ∈ xBIG := xin_9 (List.mem_of_getElem? (i := 187) rfl) rfl
theorem xw_1763 : Cond.code ⟨"ExpressHouse$FileReader", "reference", "()I"⟩ prog_3_method_14_code 4 (some .int) ∈ xBIG := xin_9 (List.mem_of_getElem? (i := 204) rfl) rfl
theorem xw_1764 : Cond.code ⟨"ExpressHouse$FileReader", "checkEntry", "(II)V"⟩ prog_3_method_16_code 4 none ∈ xBIG := xin_9 (List.mem_of_getElem? (i := 217) rfl) rfl
theorem xw_1765 : Cond.code ⟨"ExpressHouse$FileReader", "addEntry", "(I)V"⟩ prog_3_method_15_code 2 none ∈ xBIG := xin_9 (List.mem_of_getElem? (i := 227) rfl) rfl
theorem xw_1766 : Cond.code ⟨"ExpressHouse$FileReader", "sign", "(I)V"⟩ prog_3_method_12_code 2 none ∈ xBIG := xin_9 (List.mem_of_getElem? (i := 231) rfl) rfl
theorem xw_1767 : Cond.code ⟨"ExpressHouse$FileReader", "peek", "()I"⟩ prog_3_method_8_code 1 (some .int) ∈ xBIG := xin_9 (List.mem_of_getElem? (i := 191) rfl) rfl
theorem xw_1768 : Cond.code ⟨"ExpressHouse$FileReader", "form", "(Z)V"⟩ prog_3_method_19_code 10 none ∈ xBIG := xin_9 (List.mem_of_getElem? (i := 235) rfl) rfl
theorem xw_1769 : Cond.code ⟨"ExpressHouse$Population", "addAll", "(I)V"⟩ prog_8_method_13_code 2 none ∈ xBIG := xin_10 (List.mem_of_getElem? (i := 71) rfl) rfl
theorem xw_1770 : Cond.code ⟨"ExpressHouse$Tokens", "isLetter", "(I)Z"⟩ prog_12_method_4_code 1 (some .boolean) ∈ xBIG := xin_7 (List.mem_of_getElem? (i := 76) rfl) rfl
theorem xw_1771 : Cond.code ⟨"ExpressHouse$Tokens", "scanName", "([BII)I"⟩ prog_12_method_12_code 8 (some .int) ∈ xBIG := xin_7 (List.mem_of_getElem? (i := 80) rfl) rfl
theorem xw_1772 : Cond.code ⟨"ExpressHouse$Tokens", "isDigit", "(I)Z"⟩ prog_12_method_5_code 1 (some .boolean) ∈ xBIG := xin_7 (List.mem_of_getElem? (i := 91) rfl) rfl
theorem xw_1773 : Cond.code ⟨"ExpressHouse$Tokens", "scanNumber", "([BII)I"⟩ prog_12_method_14_code 12 (some .int) ∈ xBIG := xin_7 (List.mem_of_getElem? (i := 95) rfl) rfl
theorem xw_1774 : Cond.code ⟨"ExpressHouse$Tokens", "longSign", "(III)I"⟩ prog_12_method_15_code 3 (some .int) ∈ xBIG := xin_7 (List.mem_of_getElem? (i := 103) rfl) rfl
theorem xw_1775 : Cond.code ⟨"ExpressHouse$Tokens", "shortSign", "(I)I"⟩ prog_12_method_16_code 1 (some .int) ∈ xBIG := xin_7 (List.mem_of_getElem? (i := 106) rfl) rfl
theorem xw_1776 : Cond.code ⟨"ExpressHouse$Tokens", "advance", "()V"⟩ prog_12_method_19_code 1 none ∈ xBIG := xin_7 (List.mem_of_getElem? (i := 114) rfl) rfl
theorem xw_1777 : Cond.code ⟨"java/util/Arrays", "fill", "([JJ)V"⟩ prog_46_method_101_code 5 none ∈ xBIG := xin_7 (List.mem_of_getElem? (i := 125) rfl) rfl
theorem xw_1778 : Cond.code ⟨"ExpressHouse$Schema", "clearTable", "([[I)V"⟩ prog_10_method_4_code 2 none ∈ xBIG := xin_7 (List.mem_of_getElem? (i := 128) rfl) rfl
theorem xw_1779 : Cond.code ⟨"ExpressHouse$Expressions", "enter", "(IZ)V"⟩ prog_2_method_3_code 3 none ∈ xBIG := xin_7 (List.mem_of_getElem? (i := 141) rfl) rfl
theorem xw_1780 : Cond.code ⟨"ExpressHouse$SchemaReader", "declare", "(I)I"⟩ prog_11_method_6_code 4 (some .int) ∈ xBIG := xin_7 (List.mem_of_getElem? (i := 156) rfl) rfl
theorem xw_1781 : Cond.code ⟨"ExpressHouse$Schema", "isCircular", "(I)Z"⟩ prog_10_method_17_code 4 (some .boolean) ∈ xBIG := xin_7 (List.mem_of_getElem? (i := 188) rfl) rfl
theorem xw_1782 : Cond.code ⟨"ExpressHouse$Tokens", "soft", "(II)V"⟩ prog_12_method_23_code 4 none ∈ xBIG := xin_7 (List.mem_of_getElem? (i := 195) rfl) rfl
theorem xw_1783 : Cond.code ⟨"ExpressHouse$Tokens", "is", "(I)Z"⟩ prog_12_method_18_code 2 (some .boolean) ∈ xBIG := xin_7 (List.mem_of_getElem? (i := 163) rfl) rfl
theorem xw_1784 : Cond.code ⟨"ExpressHouse$SchemaReader", "enumeration", "(I)V"⟩ prog_11_method_9_code 3 none ∈ xBIG := xin_7 (List.mem_of_getElem? (i := 199) rfl) rfl
theorem xw_1785 : Cond.code ⟨"ExpressHouse$SchemaReader", "selection", "(I)V"⟩ prog_11_method_10_code 3 none ∈ xBIG := xin_7 (List.mem_of_getElem? (i := 203) rfl) rfl
theorem xw_1786 : Cond.code ⟨"ExpressHouse$SchemaReader", "plainType", "(I)V"⟩ prog_11_method_11_code 3 none ∈ xBIG := xin_7 (List.mem_of_getElem? (i := 229) rfl) rfl
theorem xw_1787 : Cond.code ⟨"ExpressHouse$SchemaReader", "where", "(I)V"⟩ prog_11_method_17_code 4 none ∈ xBIG := xin_8 (List.mem_of_getElem? (i := 8) rfl) rfl
theorem xw_1788 : Cond.code ⟨"ExpressHouse$SchemaReader", "under", "(I)V"⟩ prog_11_method_20_code 5 none ∈ xBIG := xin_8 (List.mem_of_getElem? (i := 157) rfl) rfl
theorem xw_1789 : Cond.code ⟨"ExpressHouse$SchemaReader", "over", "(I)V"⟩ prog_11_method_21_code 3 none ∈ xBIG := xin_8 (List.mem_of_getElem? (i := 165) rfl) rfl
theorem xw_1790 : Cond.code ⟨"ExpressHouse$Expressions", "emit", "(II)V"⟩ prog_2_method_6_code 3 none ∈ xBIG := xin_8 (List.mem_of_getElem? (i := 31) rfl) rfl
theorem xw_1791 : Cond.code ⟨"ExpressHouse$SchemaReader", "attributes", "(I)V"⟩ prog_11_method_25_code 4 none ∈ xBIG := xin_8 (List.mem_of_getElem? (i := 184) rfl) rfl
theorem xw_1792 : Cond.code ⟨"ExpressHouse$SchemaReader", "uniques", "(I)V"⟩ prog_11_method_31_code 4 none ∈ xBIG := xin_8 (List.mem_of_getElem? (i := 209) rfl) rfl
theorem xw_1793 : Cond.code ⟨"ExpressHouse$SchemaReader", "local", "([II)V"⟩ prog_11_method_35_code 5 none ∈ xBIG := xin_8 (List.mem_of_getElem? (i := 226) rfl) rfl
theorem xw_1794 : Cond.code ⟨"ExpressHouse$SchemaReader", "kind", "()I"⟩ prog_11_method_14_code 4 (some .int) ∈ xBIG := xin_7 (List.mem_of_getElem? (i := 233) rfl) rfl
theorem xw_1795 : Cond.code ⟨"ExpressHouse$SchemaReader", "statements", "([II)V"⟩ prog_11_method_36_code 4 none ∈ xBIG := xin_8 (List.mem_of_getElem? (i := 235) rfl) rfl
theorem xw_1796 : Cond.code ⟨"ExpressHouse$Expressions", "emit", "(I)V"⟩ prog_2_method_5_code 2 none ∈ xBIG := xin_8 (List.mem_of_getElem? (i := 86) rfl) rfl
theorem xw_1797 : Cond.code ⟨"ExpressHouse$Tokens", "refuse", "()V"⟩ prog_12_method_21_code 1 none ∈ xBIG := xin_8 (List.mem_of_getElem? (i := 130) rfl) rfl
theorem xw_1798 : Cond.code ⟨"ExpressHouse$Schema", "unionOf", "([[III)I"⟩ prog_10_method_15_code 5 (some .int) ∈ xBIG := xin_7 (List.mem_of_getElem? (i := 191) rfl) rfl
theorem xw_1799 : Cond.code ⟨"ExpressHouse$Schema", "acceptedThrough", "(I)I"⟩ prog_10_method_16_code 4 (some .int) ∈ xBIG := xin_9 (List.mem_of_getElem? (i := 47) rfl) rfl
theorem xw_1800 : Cond.code ⟨"ExpressHouse$Schema", "endOf", "(I)I"⟩ prog_10_method_13_code 4 (some .int) ∈ xBIG := xin_9 (List.mem_of_getElem? (i := 52) rfl) rfl
theorem xw_1801 : Cond.code ⟨"ExpressHouse$Schema", "accepts", "(I)I"⟩ prog_10_method_20_code 2 (some .int) ∈ xBIG := xin_7 (List.mem_of_getElem? (i := 224) rfl) rfl
theorem xw_1802 : Cond.code ⟨"ExpressHouse$Schema", "isReal", "(I)Z"⟩ prog_10_method_19_code 3 (some .boolean) ∈ xBIG := xin_9 (List.mem_of_getElem? (i := 65) rfl) rfl
theorem xw_1803 : Cond.code ⟨"ExpressHouse$Schema", "kindCell", "(II)I"⟩ prog_10_method_9_code 3 (some .int) ∈ xBIG := xin_5 (List.mem_of_getElem? (i := 176) rfl) rfl
theorem xw_1804 : Cond.code ⟨"ExpressHouse$Schema", "isRefined", "(II)Z"⟩ prog_10_method_33_code 4 (some .boolean) ∈ xBIG := xin_4 (List.mem_of_getElem? (i := 42) rfl) rfl
theorem xw_1805 : Cond.code ⟨"ExpressHouse$Schema", "overAllows", "(II)Z"⟩ prog_10_method_34_code 5 (some .boolean) ∈ xBIG := xin_4 (List.mem_of_getElem? (i := 46) rfl) rfl
theorem xw_1806 : Cond.code ⟨"ExpressHouse$Expressions", "exp", "()V"⟩ prog_2_method_16_code 3 none ∈ xBIG := xin_8 (List.mem_of_getElem? (i := 15) rfl) rfl
theorem xw_1807 : Cond.code ⟨"ExpressHouse$Population", "holdsAlike", "(II)Z"⟩ prog_8_method_24_code 4 (some .boolean) ∈ xBIG := xin_4 (List.mem_of_getElem? (i := 98) rfl) rfl
theorem xw_1808 : Cond.code ⟨"ExpressHouse$Machine", "step", "(I)V"⟩ prog_6_method_7_code 3 none ∈ xBIG := xin_4 (List.mem_of_getElem? (i := 158) rfl) rfl
theorem xw_1809 : Cond.code ⟨"ExpressHouse$Machine", "push", "(LExpressHouse$Value;)V"⟩ prog_6_method_4_code 2 none ∈ xBIG := xin_4 (List.mem_of_getElem? (i := 166) rfl) rfl
theorem xw_1810 : Cond.code ⟨"ExpressHouse$Population", "extent", "(I)LExpressHouse$Value;"⟩ prog_8_method_17_code 5 (some (.object "ExpressHouse$Value")) ∈ xBIG := xin_4 (List.mem_of_getElem? (i := 172) rfl) rfl
theorem xw_1811 : Cond.code ⟨"ExpressHouse$Machine", "slotAt", "(I)I"⟩ prog_6_method_11_code 2 (some .int) ∈ xBIG := xin_4 (List.mem_of_getElem? (i := 197) rfl) rfl
theorem xw_1812 : Cond.code ⟨"ExpressHouse$Machine", "access", "(I)V"⟩ prog_6_method_14_code 5 none ∈ xBIG := xin_4 (List.mem_of_getElem? (i := 205) rfl) rfl
theorem xw_1813 : Cond.code ⟨"ExpressHouse$Machine", "list", "(I)V"⟩ prog_6_method_15_code 11 none ∈ xBIG := xin_4 (List.mem_of_getElem? (i := 222) rfl) rfl
theorem xw_1814 : Cond.code ⟨"ExpressHouse$Operators", "negated", "(LExpressHouse$Value;)LExpressHouse$Value;"⟩ prog_7_method_10_code 2 (some (.object "ExpressHouse$Value")) ∈ xBIG := xin_4 (List.mem_of_getElem? (i := 235) rfl) rfl
theorem xw_1815 : Cond.code ⟨"ExpressHouse$Operators", "inverted", "(LExpressHouse$Value;)LExpressHouse$Value;"⟩ prog_7_method_9_code 2 (some (.object "ExpressHouse$Value")) ∈ xBIG := xin_5 (List.mem_of_getElem? (i := 11) rfl) rfl
theorem xw_1816 : Cond.code ⟨"ExpressHouse$Operators", "builtIn", "(ILExpressHouse$Value;LExpressHouse$Value;)LExpressHouse$Value;"⟩ prog_7_method_15_code 4 (some (.object "ExpressHouse$Value")) ∈ xBIG := xin_5 (List.mem_of_getElem? (i := 16) rfl) rfl
theorem xw_1817 : Cond.code ⟨"ExpressHouse$Operators", "placeOf", "(LExpressHouse$Value;LExpressHouse$Value;)LExpressHouse$Value;"⟩ prog_7_method_13_code 6 (some (.object "ExpressHouse$Value")) ∈ xBIG := xin_5 (List.mem_of_getElem? (i := 95) rfl) rfl
theorem xw_1818 : Cond.code ⟨"ExpressHouse$Operators", "logic", "(ILExpressHouse$Value;LExpressHouse$Value;)LExpressHouse$Value;"⟩ prog_7_method_8_code 9 (some (.object "ExpressHouse$Value")) ∈ xBIG := xin_5 (List.mem_of_getElem? (i := 108) rfl) rfl
theorem xw_1819 : Cond.code ⟨"ExpressHouse$Operators", "compared", "(ILExpressHouse$Value;LExpressHouse$Value;)LExpressHouse$Value;"⟩ prog_7_method_11_code 5 (some (.object "ExpressHouse$Value")) ∈ xBIG := xin_5 (List.mem_of_getElem? (i := 112) rfl) rfl
theorem xw_1820 : Cond.code ⟨"ExpressHouse$Operators", "places", "(ILExpressHouse$Value;LExpressHouse$Value;)LExpressHouse$Value;"⟩ prog_7_method_5_code 8 (some (.object "ExpressHouse$Value")) ∈ xBIG := xin_5 (List.mem_of_getElem? (i := 133) rfl) rfl
theorem xw_1821 : Cond.code ⟨"ExpressHouse$Operators", "numbers", "(ILExpressHouse$Value;LExpressHouse$Value;)LExpressHouse$Value;"⟩ prog_7_method_3_code 8 (some (.object "ExpressHouse$Value")) ∈ xBIG := xin_5 (List.mem_of_getElem? (i := 139) rfl) rfl
theorem xw_1822 : Cond.code ⟨"ExpressHouse$Machine", "call", "(I)V"⟩ prog_6_method_17_code 8 none ∈ xBIG := xin_5 (List.mem_of_getElem? (i := 164) rfl) rfl
theorem xw_1823 : Cond.code ⟨"ExpressHouse$Machine", "startQuery", "(II)V"⟩ prog_6_method_18_code 4 none ∈ xBIG := xin_5 (List.mem_of_getElem? (i := 189) rfl) rfl
theorem xw_1824 : Cond.code ⟨"ExpressHouse$Machine", "continueQuery", "(II)V"⟩ prog_6_method_19_code 8 none ∈ xBIG := xin_5 (List.mem_of_getElem? (i := 193) rfl) rfl
theorem xw_1825 : Cond.code ⟨"ExpressHouse$Value", "isTrue", "()Z"⟩ prog_13_method_4_code 1 (some .boolean) ∈ xBIG := xin_5 (List.mem_of_getElem? (i := 208) rfl) rfl
theorem xw_1826 : Cond.code ⟨"ExpressHouse$Machine", "store", "(II)V"⟩ prog_6_method_20_code 4 none ∈ xBIG := xin_5 (List.mem_of_getElem? (i := 213) rfl) rfl
theorem xw_1827 : Cond.code ⟨"ExpressHouse$Machine", "storeAt", "(II)V"⟩ prog_6_method_21_code 5 none ∈ xBIG := xin_5 (List.mem_of_getElem? (i := 221) rfl) rfl
theorem xw_1828 : Cond.code ⟨"ExpressHouse$Machine", "closeFrame", "(LExpressHouse$Value;)V"⟩ prog_6_method_9_code 4 none ∈ xBIG := xin_5 (List.mem_of_getElem? (i := 234) rfl) rfl
theorem xw_1829 : Cond.code ⟨"ExpressHouse$Machine", "endFrame", "(LExpressHouse$Value;)V"⟩ prog_6_method_10_code 2 none ∈ xBIG := xin_5 (List.mem_of_getElem? (i := 217) rfl) rfl
theorem xw_1830 : Cond.code ⟨"ExpressHouse$Machine", "repeat", "(II)V"⟩ prog_6_method_22_code 6 none ∈ xBIG := xin_5 (List.mem_of_getElem? (i := 238) rfl) rfl
theorem xw_1831 : Cond.code ⟨"ExpressHouse$Reals", "toBits", "(D)J"⟩ prog_9_method_7_code 8 (some .long) ∈ xBIG := xin_5 (List.mem_of_getElem? (i := 40) rfl) rfl
theorem xw_1832 : Cond.code ⟨"ExpressHouse$Reals", "isWhole", "(JJ)Z"⟩ prog_9_method_8_code 10 (some .boolean) ∈ xBIG := xin_4 (List.mem_of_getElem? (i := 117) rfl) rfl
theorem xw_1833 : Cond.code ⟨"ExpressHouse$Reals", "isNan", "(J)Z"⟩ prog_9_method_2_code 2 (some .boolean) ∈ xBIG := xin_4 (List.mem_of_getElem? (i := 123) rfl) rfl
theorem xw_1834 : Cond.code ⟨"ExpressHouse$Population", "countUsers", "(II)I"⟩ prog_8_method_20_code 5 (some .int) ∈ xBIG := xin_6 (List.mem_of_getElem? (i := 49) rfl) rfl
theorem xw_1835 : Cond.code ⟨"ExpressHouse$Judge", "isWithin", "(II)Z"⟩ prog_5_method_9_code 4 (some .boolean) ∈ xBIG := xin_6 (List.mem_of_getElem? (i := 53) rfl) rfl
theorem xw_1836 : Cond.code ⟨"ExpressHouse$Judge", "isHeldWithin", "(LExpressHouse$Value;[I)Z"⟩ prog_5_method_8_code 3 (some .boolean) ∈ xBIG := xin_6 (List.mem_of_getElem? (i := 59) rfl) rfl
theorem xw_1837 : Cond.code ⟨"ExpressHouse$Judge", "areAlike", "(IIJ)Z"⟩ prog_5_method_12_code 7 (some .boolean) ∈ xBIG := xin_6 (List.mem_of_getElem? (i := 81) rfl) rfl
theorem xw_1838 : Cond.code ⟨"ExpressHouse$Judge", "rank", "(I)I"⟩ prog_5_method_5_code 1 (some .int) ∈ xBIG := xin_6 (List.mem_of_getElem? (i := 69) rfl) rfl
theorem xw_1839 : Cond.code ⟨"ExpressHouse$Schema", "isExplicit", "(I)Z"⟩ prog_10_method_22_code 2 (some .boolean) ∈ xBIG := xin_4 (List.mem_of_getElem? (i := 102) rfl) rfl
theorem xw_1840 : Cond.code ⟨"ExpressHouse$FileWriter", "word", "(J)V"⟩ prog_4_method_7_code 5 none ∈ xBIG := xin_6 (List.mem_of_getElem? (i := 147) rfl) rfl
theorem xw_1841 : Cond.code ⟨"ExpressHouse$FileWriter", "held", "(LExpressHouse$Value;)V"⟩ prog_4_method_8_code 3 none ∈ xBIG := xin_6 (List.mem_of_getElem? (i := 160) rfl) rfl
theorem xw_1842 : Cond.code ⟨"ExpressHouse$FileReader", "expect", "(I)V"⟩ prog_3_method_11_code 2 none ∈ xBIG := xin_9 (List.mem_of_getElem? (i := 208) rfl) rfl
theorem xw_1843 : Cond.code ⟨"ExpressHouse$FileReader", "fail", "(II)V"⟩ prog_3_method_10_code 3 none ∈ xBIG := xin_9 (List.mem_of_getElem? (i := 212) rfl) rfl
theorem xw_1844 : Cond.code ⟨"ExpressHouse$FileReader", "entryOf", "(I)I"⟩ prog_3_method_17_code 3 (some .int) ∈ xBIG := xin_9 (List.mem_of_getElem? (i := 222) rfl) rfl
theorem xw_1845 : Cond.code ⟨"ExpressHouse$FileReader", "word", "()J"⟩ prog_3_method_18_code 4 (some .long) ∈ xBIG := xin_9 (List.mem_of_getElem? (i := 239) rfl) rfl
theorem xw_1846 : Cond.code ⟨"ExpressHouse$Schema", "find", "(IJ)I"⟩ prog_10_method_7_code 6 (some .int) ∈ xBIG := xin_7 (List.mem_of_getElem? (i := 171) rfl) rfl
theorem xw_1847 : Cond.code ⟨"ExpressHouse$Schema", "explicitFrom", "(II)I"⟩ prog_10_method_23_code 4 (some .int) ∈ xBIG := xin_10 (List.mem_of_getElem? (i := 8) rfl) rfl
theorem xw_1848 : Cond.code ⟨"ExpressHouse$FileReader", "valuePart", "(I)V"⟩ prog_3_method_20_code 8 none ∈ xBIG := xin_10 (List.mem_of_getElem? (i := 12) rfl) rfl
theorem xw_1849 : Cond.code ⟨"ExpressHouse$Tokens", "kindOfWord", "(J)I"⟩ prog_12_method_13_code 4 (some .int) ∈ xBIG := xin_7 (List.mem_of_getElem? (i := 84) rfl) rfl
theorem xw_1850 : Cond.code ⟨"ExpressHouse$Reals", "ofDecimal", "(JJ)J"⟩ prog_9_method_9_code 4 (some .long) ∈ xBIG := xin_7 (List.mem_of_getElem? (i := 100) rfl) rfl
theorem xw_1851 : Cond.code ⟨"ExpressHouse$Schema", "most", "(I)I"⟩ prog_10_method_2_code 1 (some .int) ∈ xBIG := xin_7 (List.mem_of_getElem? (i := 159) rfl) rfl
theorem xw_1852 : Cond.code ⟨"ExpressHouse$Schema", "isTaken", "(IJ)Z"⟩ prog_10_method_6_code 5 (some .boolean) ∈ xBIG := xin_7 (List.mem_of_getElem? (i := 167) rfl) rfl
theorem xw_1853 : Cond.code ⟨"ExpressHouse$Tokens", "fail", "(I)V"⟩ prog_12_method_22_code 2 none ∈ xBIG := xin_7 (List.mem_of_getElem? (i := 179) rfl) rfl
theorem xw_1854 : Cond.code ⟨"ExpressHouse$Schema", "addName", "(IJ)V"⟩ prog_10_method_5_code 4 none ∈ xBIG := xin_7 (List.mem_of_getElem? (i := 183) rfl) rfl
theorem xw_1855 : Cond.code ⟨"ExpressHouse$SchemaReader", "namedItem", "(Z)I"⟩ prog_11_method_13_code 6 (some .int) ∈ xBIG := xin_7 (List.mem_of_getElem? (i := 207) rfl) rfl
theorem xw_1856 : Cond.code ⟨"ExpressHouse$SchemaReader", "see", "(IIZ)V"⟩ prog_11_method_12_code 4 none ∈ xBIG := xin_7 (List.mem_of_getElem? (i := 216) rfl) rfl
theorem xw_1857 : Cond.code ⟨"ExpressHouse$Expressions", "startsExp", "(I)Z"⟩ prog_2_method_9_code 1 (some .boolean) ∈ xBIG := xin_8 (List.mem_of_getElem? (i := 11) rfl) rfl
theorem xw_1858 : Cond.code ⟨"ExpressHouse$SchemaReader", "misnamed", "()V"⟩ prog_11_method_7_code 1 none ∈ xBIG := xin_8 (List.mem_of_getElem? (i := 161) rfl) rfl
theorem xw_1859 : Cond.code ⟨"ExpressHouse$SchemaReader", "bothOver", "(I)V"⟩ prog_11_method_22_code 3 none ∈ xBIG := xin_8 (List.mem_of_getElem? (i := 169) rfl) rfl
theorem xw_1860 : Cond.code ⟨"ExpressHouse$SchemaReader", "explicit", "(I)V"⟩ prog_11_method_27_code 3 none ∈ xBIG := xin_8 (List.mem_of_getElem? (i := 188) rfl) rfl
theorem xw_1861 : Cond.code ⟨"ExpressHouse$SchemaReader", "derived", "(I)V"⟩ prog_11_method_28_code 3 none ∈ xBIG := xin_8 (List.mem_of_getElem? (i := 196) rfl) rfl
theorem xw_1862 : Cond.code ⟨"ExpressHouse$SchemaReader", "inverse", "(I)V"⟩ prog_11_method_29_code 6 none ∈ xBIG := xin_8 (List.mem_of_getElem? (i := 200) rfl) rfl
theorem xw_1863 : Cond.code ⟨"ExpressHouse$SchemaReader", "uniqueList", "(I)J"⟩ prog_11_method_32_code 5 (some .long) ∈ xBIG := xin_8 (List.mem_of_getElem? (i := 213) rfl) rfl
theorem xw_1864 : Cond.code ⟨"ExpressHouse$Expressions", "findLocal", "(J)I"⟩ prog_2_method_13_code 4 (some .int) ∈ xBIG := xin_8 (List.mem_of_getElem? (i := 117) rfl) rfl
theorem xw_1865 : Cond.code ⟨"ExpressHouse$Expressions", "addLocal", "(J)V"⟩ prog_2_method_12_code 3 none ∈ xBIG := xin_8 (List.mem_of_getElem? (i := 231) rfl) rfl
theorem xw_1866 : Cond.code ⟨"ExpressHouse$SchemaReader", "newKind", "(I)I"⟩ prog_11_method_15_code 3 (some .int) ∈ xBIG := xin_7 (List.mem_of_getElem? (i := 237) rfl) rfl
theorem xw_1867 : Cond.code ⟨"ExpressHouse$SchemaReader", "bounds", "(I)V"⟩ prog_11_method_16_code 3 none ∈ xBIG := xin_8 (List.mem_of_getElem? (i := 1) rfl) rfl
theorem xw_1868 : Cond.code ⟨"ExpressHouse$SchemaReader", "startsStatement", "(I)Z"⟩ prog_11_method_37_code 1 (some .boolean) ∈ xBIG := xin_8 (List.mem_of_getElem? (i := 238) rfl) rfl
theorem xw_1869 : Cond.code ⟨"ExpressHouse$SchemaReader", "statement", "([II)V"⟩ prog_11_method_38_code 3 none ∈ xBIG := xin_9 (List.mem_of_getElem? (i := 2) rfl) rfl
theorem xw_1870 : Cond.code ⟨"ExpressHouse$Schema", "goesOn", "(I)Z"⟩ prog_10_method_14_code 2 (some .boolean) ∈ xBIG := xin_9 (List.mem_of_getElem? (i := 56) rfl) rfl
theorem xw_1871 : Cond.code ⟨"ExpressHouse$Schema", "isType", "(I)Z"⟩ prog_10_method_10_code 2 (some .boolean) ∈ xBIG := xin_7 (List.mem_of_getElem? (i := 220) rfl) rfl
theorem xw_1872 : Cond.code ⟨"ExpressHouse$Schema", "isKindType", "(I)Z"⟩ prog_10_method_11_code 2 (some .boolean) ∈ xBIG := xin_9 (List.mem_of_getElem? (i := 60) rfl) rfl
theorem xw_1873 : Cond.code ⟨"ExpressHouse$Schema", "joinOver", "(III)I"⟩ prog_10_method_35_code 8 (some .int) ∈ xBIG := xin_4 (List.mem_of_getElem? (i := 50) rfl) rfl
theorem xw_1874 : Cond.code ⟨"ExpressHouse$Expressions", "sum", "()V"⟩ prog_2_method_17_code 4 none ∈ xBIG := xin_8 (List.mem_of_getElem? (i := 19) rfl) rfl
theorem xw_1875 : Cond.code ⟨"ExpressHouse$Expressions", "operator", "(I)V"⟩ prog_2_method_15_code 2 none ∈ xBIG := xin_8 (List.mem_of_getElem? (i := 55) rfl) rfl
theorem xw_1876 : Cond.code ⟨"ExpressHouse$Population", "alike", "(LExpressHouse$Value;LExpressHouse$Value;)Z"⟩ prog_8_method_25_code 9 (some .boolean) ∈ xBIG := xin_4 (List.mem_of_getElem? (i := 110) rfl) rfl
theorem xw_1877 : Cond.code ⟨"ExpressHouse$Population", "instances", "(I[JI)LExpressHouse$Value;"⟩ prog_8_method_18_code 4 (some (.object "ExpressHouse$Value")) ∈ xBIG := xin_4 (List.mem_of_getElem? (i := 176) rfl) rfl
theorem xw_1878 : Cond.code ⟨"ExpressHouse$Population", "users", "(II)LExpressHouse$Value;"⟩ prog_8_method_19_code 6 (some (.object "ExpressHouse$Value")) ∈ xBIG := xin_4 (List.mem_of_getElem? (i := 215) rfl) rfl
theorem xw_1879 : Cond.code ⟨"ExpressHouse$Machine", "below", "(I)LExpressHouse$Value;"⟩ prog_6_method_6_code 3 (some (.object "ExpressHouse$Value")) ∈ xBIG := xin_4 (List.mem_of_getElem? (i := 226) rfl) rfl
theorem xw_1880 : Cond.code ⟨"ExpressHouse$Operators", "integer", "(J)LExpressHouse$Value;"⟩ prog_7_method_2_code 3 (some (.object "ExpressHouse$Value")) ∈ xBIG := xin_4 (List.mem_of_getElem? (i := 239) rfl) rfl
theorem xw_1881 : Cond.code ⟨"ExpressHouse$Reals", "negative", "(J)J"⟩ prog_9_method_11_code 2 (some .long) ∈ xBIG := xin_5 (List.mem_of_getElem? (i := 4) rfl) rfl
theorem xw_1882 : Cond.code ⟨"ExpressHouse$Reals", "size", "(J)J"⟩ prog_9_method_15_code 2 (some .long) ∈ xBIG := xin_5 (List.mem_of_getElem? (i := 22) rfl) rfl
theorem xw_1883 : Cond.code ⟨"ExpressHouse$Operators", "realOf", "(LExpressHouse$Value;J)LExpressHouse$Value;"⟩ prog_7_method_16_code 4 (some (.object "ExpressHouse$Value")) ∈ xBIG := xin_5 (List.mem_of_getElem? (i := 26) rfl) rfl
theorem xw_1884 : Cond.code ⟨"ExpressHouse$Operators", "rounded", "(LExpressHouse$Value;I)LExpressHouse$Value;"⟩ prog_7_method_17_code 3 (some (.object "ExpressHouse$Value")) ∈ xBIG := xin_5 (List.mem_of_getElem? (i := 30) rfl) rfl
theorem xw_1885 : Cond.code ⟨"ExpressHouse$Reals", "signOf", "(J)J"⟩ prog_9_method_17_code 2 (some .long) ∈ xBIG := xin_5 (List.mem_of_getElem? (i := 60) rfl) rfl
theorem xw_1886 : Cond.code ⟨"ExpressHouse$Operators", "measure", "(LExpressHouse$Value;I)LExpressHouse$Value;"⟩ prog_7_method_18_code 3 (some (.object "ExpressHouse$Value")) ∈ xBIG := xin_5 (List.mem_of_getElem? (i := 68) rfl) rfl
theorem xw_1887 : Cond.code ⟨"ExpressHouse$Operators", "truth", "(Z)LExpressHouse$Value;"⟩ prog_7_method_7_code 1 (some (.object "ExpressHouse$Value")) ∈ xBIG := xin_5 (List.mem_of_getElem? (i := 71) rfl) rfl
theorem xw_1888 : Cond.code ⟨"ExpressHouse$Population", "allUsers", "(I)LExpressHouse$Value;"⟩ prog_8_method_21_code 6 (some (.object "ExpressHouse$Value")) ∈ xBIG := xin_5 (List.mem_of_getElem? (i := 75) rfl) rfl
theorem xw_1889 : Cond.code ⟨"ExpressHouse$Operators", "ofNumbers", "(ILExpressHouse$Value;LExpressHouse$Value;)LExpressHouse$Value;"⟩ prog_7_method_19_code 9 (some (.object "ExpressHouse$Value")) ∈ xBIG := xin_5 (List.mem_of_getElem? (i := 79) rfl) rfl
theorem xw_1890 : Cond.code ⟨"ExpressHouse$Value", "kindAt", "(I)I"⟩ prog_13_method_6_code 2 (some .int) ∈ xBIG := xin_5 (List.mem_of_getElem? (i := 99) rfl) rfl
theorem xw_1891 : Cond.code ⟨"ExpressHouse$Value", "bitsAt", "(I)J"⟩ prog_13_method_8_code 2 (some .long) ∈ xBIG := xin_5 (List.mem_of_getElem? (i := 104) rfl) rfl
theorem xw_1892 : Cond.code ⟨"ExpressHouse$Operators", "isIn", "(IJLExpressHouse$Value;)Z"⟩ prog_7_method_6_code 7 (some .boolean) ∈ xBIG := xin_5 (List.mem_of_getElem? (i := 116) rfl) rfl
theorem xw_1893 : Cond.code ⟨"ExpressHouse$Value", "isNumber", "()Z"⟩ prog_13_method_3_code 1 (some .boolean) ∈ xBIG := xin_5 (List.mem_of_getElem? (i := 34) rfl) rfl
theorem xw_1894 : Cond.code ⟨"ExpressHouse$Operators", "ordered", "(ILExpressHouse$Value;LExpressHouse$Value;)LExpressHouse$Value;"⟩ prog_7_method_12_code 10 (some (.object "ExpressHouse$Value")) ∈ xBIG := xin_5 (List.mem_of_getElem? (i := 122) rfl) rfl
theorem xw_1895 : Cond.code ⟨"ExpressHouse$Operators", "wholes", "(IJJ)LExpressHouse$Value;"⟩ prog_7_method_4_code 8 (some (.object "ExpressHouse$Value")) ∈ xBIG := xin_5 (List.mem_of_getElem? (i := 143) rfl) rfl
theorem xw_1896 : Cond.code ⟨"ExpressHouse$Reals", "of", "(LExpressHouse$Value;)J"⟩ prog_9_method_10_code 1 (some .long) ∈ xBIG := xin_5 (List.mem_of_getElem? (i := 37) rfl) rfl
theorem xw_1897 : Cond.code ⟨"ExpressHouse$Reals", "plus", "(JJ)J"⟩ prog_9_method_12_code 6 (some .long) ∈ xBIG := xin_5 (List.mem_of_getElem? (i := 147) rfl) rfl
theorem xw_1898 : Cond.code ⟨"ExpressHouse$Reals", "times", "(JJ)J"⟩ prog_9_method_13_code 4 (some .long) ∈ xBIG := xin_5 (List.mem_of_getElem? (i := 153) rfl) rfl
theorem xw_1899 : Cond.code ⟨"ExpressHouse$Reals", "over", "(JJ)J"⟩ prog_9_method_14_code 6 (some .long) ∈ xBIG := xin_5 (List.mem_of_getElem? (i := 156) rfl) rfl
theorem xw_1900 : Cond.code ⟨"ExpressHouse$Value", "filledFrom", "(I)I"⟩ prog_13_method_7_code 3 (some .int) ∈ xBIG := xin_5 (List.mem_of_getElem? (i := 197) rfl) rfl
theorem xw_1901 : Cond.code ⟨"ExpressHouse$Operators", "withPlace", "(LExpressHouse$Value;LExpressHouse$Value;LExpressHouse$Value;I)LExpressHouse$Value;"⟩ prog_7_method_14_code 11 (some (.object "ExpressHouse$Value")) ∈ xBIG := xin_5 (List.mem_of_getElem? (i := 225) rfl) rfl
theorem xw_1902 : Cond.code ⟨"ExpressHouse$Machine", "startRepeat", "(I)V"⟩ prog_6_method_23_code 6 none ∈ xBIG := xin_6 (List.mem_of_getElem? (i := 2) rfl) rfl
theorem xw_1903 : Cond.code ⟨"ExpressHouse$Tokens", "lengthOf", "(J)I"⟩ prog_12_method_7_code 5 (some .int) ∈ xBIG := xin_6 (List.mem_of_getElem? (i := 150) rfl) rfl
theorem xw_1904 : Cond.code ⟨"ExpressHouse$Tokens", "byteOf", "(JI)I"⟩ prog_12_method_8_code 6 (some .int) ∈ xBIG := xin_6 (List.mem_of_getElem? (i := 153) rfl) rfl
theorem xw_1905 : Cond.code ⟨"ExpressHouse$FileWriter", "scalar", "(IJ)V"⟩ prog_4_method_9_code 5 none ∈ xBIG := xin_6 (List.mem_of_getElem? (i := 164) rfl) rfl
theorem xw_1906 : Cond.code ⟨"ExpressHouse$FileReader", "scalar", "()V"⟩ prog_3_method_24_code 4 none ∈ xBIG := xin_10 (List.mem_of_getElem? (i := 16) rfl) rfl
theorem xw_1907 : Cond.code ⟨"ExpressHouse$FileReader", "holdOrFail", "(IILExpressHouse$Value;I)V"⟩ prog_3_method_23_code 5 none ∈ xBIG := xin_10 (List.mem_of_getElem? (i := 47) rfl) rfl
theorem xw_1908 : Cond.code ⟨"ExpressHouse$FileReader", "holdAggregate", "(IIII[J)V"⟩ prog_3_method_21_code 9 none ∈ xBIG := xin_10 (List.mem_of_getElem? (i := 54) rfl) rfl
theorem xw_1909 : Cond.code ⟨"ExpressHouse$Schema", "findBuiltIn", "(J)I"⟩ prog_10_method_8_code 4 (some .int) ∈ xBIG := xin_7 (List.mem_of_getElem? (i := 175) rfl) rfl
theorem xw_1910 : Cond.code ⟨"ExpressHouse$Schema", "isAggregate", "(I)Z"⟩ prog_10_method_18_code 2 (some .boolean) ∈ xBIG := xin_7 (List.mem_of_getElem? (i := 212) rfl) rfl
theorem xw_1911 : Cond.code ⟨"ExpressHouse$SchemaReader", "oneOver", "(I)V"⟩ prog_11_method_23_code 4 none ∈ xBIG := xin_8 (List.mem_of_getElem? (i := 173) rfl) rfl
theorem xw_1912 : Cond.code ⟨"ExpressHouse$SchemaReader", "attributeOf", "(III)[I"⟩ prog_11_method_26_code 5 (some (.array (.int))) ∈ xBIG := xin_8 (List.mem_of_getElem? (i := 192) rfl) rfl
theorem xw_1913 : Cond.code ⟨"ExpressHouse$SchemaReader", "misnamedAtLast", "()V"⟩ prog_11_method_30_code 1 none ∈ xBIG := xin_8 (List.mem_of_getElem? (i := 205) rfl) rfl
theorem xw_1914 : Cond.code ⟨"ExpressHouse$SchemaReader", "uniqueName", "(I)J"⟩ prog_11_method_33_code 4 (some .long) ∈ xBIG := xin_8 (List.mem_of_getElem? (i := 217) rfl) rfl
theorem xw_1915 : Cond.code ⟨"ExpressHouse$SchemaReader", "assignment", "([I)V"⟩ prog_11_method_40_code 6 none ∈ xBIG := xin_9 (List.mem_of_getElem? (i := 6) rfl) rfl
theorem xw_1916 : Cond.code ⟨"ExpressHouse$SchemaReader", "choice", "([II)V"⟩ prog_11_method_41_code 5 none ∈ xBIG := xin_9 (List.mem_of_getElem? (i := 11) rfl) rfl
theorem xw_1917 : Cond.code ⟨"ExpressHouse$SchemaReader", "repetition", "([II)V"⟩ prog_11_method_43_code 9 none ∈ xBIG := xin_9 (List.mem_of_getElem? (i := 16) rfl) rfl
theorem xw_1918 : Cond.code ⟨"ExpressHouse$SchemaReader", "whileLoop", "([II)V"⟩ prog_11_method_45_code 6 none ∈ xBIG := xin_9 (List.mem_of_getElem? (i := 30) rfl) rfl
theorem xw_1919 : Cond.code ⟨"ExpressHouse$SchemaReader", "leap", "(I)V"⟩ prog_11_method_39_code 2 none ∈ xBIG := xin_9 (List.mem_of_getElem? (i := 34) rfl) rfl
theorem xw_1920 : Cond.code ⟨"ExpressHouse$Expressions", "term", "()V"⟩ prog_2_method_19_code 4 none ∈ xBIG := xin_8 (List.mem_of_getElem? (i := 23) rfl) rfl
theorem xw_1921 : Cond.code ⟨"ExpressHouse$Expressions", "isSumSign", "(I)Z"⟩ prog_2_method_18_code 1 (some .boolean) ∈ xBIG := xin_8 (List.mem_of_getElem? (i := 144) rfl) rfl
theorem xw_1922 : Cond.code ⟨"ExpressHouse$Expressions", "emitOperator", "(I)V"⟩ prog_2_method_21_code 3 none ∈ xBIG := xin_8 (List.mem_of_getElem? (i := 141) rfl) rfl
theorem xw_1923 : Cond.code ⟨"ExpressHouse$Tokens", "node", "()Z"⟩ prog_12_method_25_code 1 (some .boolean) ∈ xBIG := xin_8 (List.mem_of_getElem? (i := 59) rfl) rfl
theorem xw_1924 : Cond.code ⟨"ExpressHouse$Expressions", "stepMore", "(I)V"⟩ prog_2_method_8_code 2 none ∈ xBIG := xin_8 (List.mem_of_getElem? (i := 64) rfl) rfl
theorem xw_1925 : Cond.code ⟨"ExpressHouse$Reals", "rounded", "(JI)J"⟩ prog_9_method_19_code 9 (some .long) ∈ xBIG := xin_5 (List.mem_of_getElem? (i := 48) rfl) rfl
theorem xw_1926 : Cond.code ⟨"ExpressHouse$Reals", "isZero", "(J)Z"⟩ prog_9_method_4_code 2 (some .boolean) ∈ xBIG := xin_5 (List.mem_of_getElem? (i := 63) rfl) rfl
theorem xw_1927 : Cond.code ⟨"ExpressHouse$Reals", "signed", "(JJ)J"⟩ prog_9_method_16_code 4 (some .long) ∈ xBIG := xin_5 (List.mem_of_getElem? (i := 82) rfl) rfl
theorem xw_1928 : Cond.code ⟨"ExpressHouse$Reals", "extreme", "(JJI)J"⟩ prog_9_method_18_code 6 (some .long) ∈ xBIG := xin_5 (List.mem_of_getElem? (i := 91) rfl) rfl
theorem xw_1929 : Cond.code ⟨"ExpressHouse$Reals", "toDouble", "(J)D"⟩ prog_9_method_6_code 9 (some .double) ∈ xBIG := xin_5 (List.mem_of_getElem? (i := 52) rfl) rfl
theorem xw_1930 : Cond.code ⟨"ExpressHouse$Schema", "typeOfItem", "(I)I"⟩ prog_10_method_21_code 2 (some .int) ∈ xBIG := xin_5 (List.mem_of_getElem? (i := 128) rfl) rfl
theorem xw_1931 : Cond.code ⟨"ExpressHouse$Reals", "isInfinite", "(J)Z"⟩ prog_9_method_3_code 2 (some .boolean) ∈ xBIG := xin_5 (List.mem_of_getElem? (i := 150) rfl) rfl
theorem xw_1932 : Cond.code ⟨"ExpressHouse$FileWriter", "real", "(J)V"⟩ prog_4_method_11_code 11 none ∈ xBIG := xin_6 (List.mem_of_getElem? (i := 168) rfl) rfl
theorem xw_1933 : Cond.code ⟨"ExpressHouse$FileReader", "hexadecimal", "()V"⟩ prog_3_method_25_code 3 none ∈ xBIG := xin_10 (List.mem_of_getElem? (i := 20) rfl) rfl
theorem xw_1934 : Cond.code ⟨"ExpressHouse$FileReader", "itemOrLogical", "()V"⟩ prog_3_method_26_code 5 none ∈ xBIG := xin_10 (List.mem_of_getElem? (i := 27) rfl) rfl
theorem xw_1935 : Cond.code ⟨"ExpressHouse$FileReader", "number", "()V"⟩ prog_3_method_27_code 12 none ∈ xBIG := xin_10 (List.mem_of_getElem? (i := 32) rfl) rfl
theorem xw_1936 : Cond.code ⟨"ExpressHouse$FileReader", "isRepeating", "(I[J)Z"⟩ prog_3_method_22_code 7 (some .boolean) ∈ xBIG := xin_10 (List.mem_of_getElem? (i := 59) rfl) rfl
theorem xw_1937 : Cond.code ⟨"ExpressHouse$SchemaReader", "nameOver", "(I)V"⟩ prog_11_method_24_code 4 none ∈ xBIG := xin_8 (List.mem_of_getElem? (i := 177) rfl) rfl
theorem xw_1938 : Cond.code ⟨"ExpressHouse$Tokens", "open", "()V"⟩ prog_12_method_26_code 1 none ∈ xBIG := xin_8 (List.mem_of_getElem? (i := 43) rfl) rfl
theorem xw_1939 : Cond.code ⟨"ExpressHouse$Tokens", "close", "()V"⟩ prog_12_method_27_code 1 none ∈ xBIG := xin_8 (List.mem_of_getElem? (i := 51) rfl) rfl
theorem xw_1940 : Cond.code ⟨"ExpressHouse$Expressions", "isKnownTo", "(II)Z"⟩ prog_2_method_29_code 4 (some .boolean) ∈ xBIG := xin_8 (List.mem_of_getElem? (i := 121) rfl) rfl
theorem xw_1941 : Cond.code ⟨"ExpressHouse$Expressions", "findHiding", "(J)I"⟩ prog_2_method_14_code 4 (some .int) ∈ xBIG := xin_8 (List.mem_of_getElem? (i := 113) rfl) rfl
theorem xw_1942 : Cond.code ⟨"ExpressHouse$Expressions", "patch", "(II)V"⟩ prog_2_method_7_code 3 none ∈ xBIG := xin_8 (List.mem_of_getElem? (i := 94) rfl) rfl
theorem xw_1943 : Cond.code ⟨"ExpressHouse$Expressions", "hide", "(J)I"⟩ prog_2_method_10_code 4 (some .int) ∈ xBIG := xin_8 (List.mem_of_getElem? (i := 82) rfl) rfl
theorem xw_1944 : Cond.code ⟨"ExpressHouse$SchemaReader", "startLoop", "(I)I"⟩ prog_11_method_42_code 3 (some .int) ∈ xBIG := xin_9 (List.mem_of_getElem? (i := 21) rfl) rfl
theorem xw_1945 : Cond.code ⟨"ExpressHouse$SchemaReader", "endLoop", "(III)V"⟩ prog_11_method_44_code 4 none ∈ xBIG := xin_9 (List.mem_of_getElem? (i := 25) rfl) rfl
theorem xw_1946 : Cond.code ⟨"ExpressHouse$Expressions", "unhide", "()V"⟩ prog_2_method_11_code 1 none ∈ xBIG := xin_8 (List.mem_of_getElem? (i := 90) rfl) rfl
theorem xw_1947 : Cond.code ⟨"ExpressHouse$Expressions", "fact", "()V"⟩ prog_2_method_22_code 3 none ∈ xBIG := xin_8 (List.mem_of_getElem? (i := 27) rfl) rfl
theorem xw_1948 : Cond.code ⟨"ExpressHouse$Expressions", "isTermSign", "(I)Z"⟩ prog_2_method_20_code 1 (some .boolean) ∈ xBIG := xin_8 (List.mem_of_getElem? (i := 137) rfl) rfl
theorem xw_1949 : Cond.code ⟨"ExpressHouse$FileWriter", "decimal", "(ZJJ)V"⟩ prog_4_method_12_code 9 none ∈ xBIG := xin_6 (List.mem_of_getElem? (i := 178) rfl) rfl
theorem xw_1950 : Cond.code ⟨"ExpressHouse$Reals", "clean", "(J)J"⟩ prog_9_method_5_code 2 (some .long) ∈ xBIG := xin_10 (List.mem_of_getElem? (i := 23) rfl) rfl
theorem xw_1951 : Cond.code ⟨"ExpressHouse$FileReader", "digits", "(JI)J"⟩ prog_3_method_28_code 8 (some .long) ∈ xBIG := xin_10 (List.mem_of_getElem? (i := 36) rfl) rfl
theorem xw_1952 : Cond.code ⟨"ExpressHouse$Expressions", "part", "(I)V"⟩ prog_2_method_23_code 3 none ∈ xBIG := xin_8 (List.mem_of_getElem? (i := 35) rfl) rfl
theorem xw_1953 : Cond.code ⟨"ExpressHouse$Expressions", "base", "(I)V"⟩ prog_2_method_25_code 6 none ∈ xBIG := xin_8 (List.mem_of_getElem? (i := 39) rfl) rfl
theorem xw_1954 : Cond.code ⟨"ExpressHouse$Expressions", "member", "()V"⟩ prog_2_method_24_code 2 none ∈ xBIG := xin_8 (List.mem_of_getElem? (i := 134) rfl) rfl
theorem xw_1955 : Cond.code ⟨"ExpressHouse$Expressions", "list", "()V"⟩ prog_2_method_31_code 3 none ∈ xBIG := xin_8 (List.mem_of_getElem? (i := 68) rfl) rfl
theorem xw_1956 : Cond.code ⟨"ExpressHouse$Expressions", "query", "()V"⟩ prog_2_method_33_code 7 none ∈ xBIG := xin_8 (List.mem_of_getElem? (i := 78) rfl) rfl
theorem xw_1957 : Cond.code ⟨"ExpressHouse$Expressions", "named", "(I)V"⟩ prog_2_method_26_code 5 none ∈ xBIG := xin_8 (List.mem_of_getElem? (i := 98) rfl) rfl
theorem xw_1958 : Cond.code ⟨"ExpressHouse$Expressions", "constant", "(IJI)V"⟩ prog_2_method_27_code 5 none ∈ xBIG := xin_8 (List.mem_of_getElem? (i := 126) rfl) rfl
theorem xw_1959 : Cond.code ⟨"ExpressHouse$Expressions", "some", "()V"⟩ prog_2_method_32_code 1 none ∈ xBIG := xin_8 (List.mem_of_getElem? (i := 73) rfl) rfl
theorem xw_1960 : Cond.code ⟨"ExpressHouse$Expressions", "invocation", "(JI)V"⟩ prog_2_method_30_code 7 none ∈ xBIG := xin_8 (List.mem_of_getElem? (i := 102) rfl) rfl
theorem xw_1961 : Cond.code ⟨"ExpressHouse$Expressions", "meaning", "(JI)V"⟩ prog_2_method_28_code 8 none ∈ xBIG := xin_8 (List.mem_of_getElem? (i := 109) rfl) rfl
theorem xw_1962 : Cond.code ⟨"ExpressHouse", "allowed", "(I)I"⟩ prog_1_method_12_code 2 (some .int) ∈ xBIG := xin_4 (List.mem_of_getElem? (i := 22) rfl) rfl
theorem xw_1963 : Cond.code ⟨"ExpressHouse", "hand", "(I)I"⟩ prog_1_method_22_code 2 (some .int) ∈ xBIG := xin_6 (List.mem_of_getElem? (i := 6) rfl) rfl
theorem xw_1964 : Cond.code ⟨"ExpressHouse", "bits", "(I)J"⟩ prog_1_method_23_code 2 (some .long) ∈ xBIG := xin_6 (List.mem_of_getElem? (i := 10) rfl) rfl
theorem xw_1965 : Cond.code ⟨"ExpressHouse", "like", "(I)I"⟩ prog_1_method_26_code 2 (some .int) ∈ xBIG := xin_6 (List.mem_of_getElem? (i := 19) rfl) rfl
theorem xw_1966 : Cond.code ⟨"ExpressHouse", "judged", "(II)I"⟩ prog_1_method_38_code 3 (some .int) ∈ xBIG := xin_6 (List.mem_of_getElem? (i := 116) rfl) rfl
theorem xw_1967 : Cond.code ⟨"ExpressHouse", "out", "(I)I"⟩ prog_1_method_40_code 2 (some .int) ∈ xBIG := xin_6 (List.mem_of_getElem? (i := 190) rfl) rfl
theorem xw_1968 : Cond.code ⟨"ExpressHouse", "begin", "()I"⟩ prog_1_method_43_code 1 (some .int) ∈ xBIG := xin_6 (List.mem_of_getElem? (i := 194) rfl) rfl
theorem xw_1969 : Cond.code ⟨"ExpressHouse$Population", "save", "()Z"⟩ prog_8_method_31_code 1 (some .boolean) ∈ xBIG := xin_6 (List.mem_of_getElem? (i := 198) rfl) rfl
theorem xC_0 : x_Cls xBIG "ExpressHouse" xF_0 15 xt_0 := by
  refine ⟨fun w hw => ?_, by decide +kernel, by decide +kernel, by decide +kernel⟩
  obtain ⟨k, hk, rfl⟩ := List.mem_map.mp hw
  have hk := List.mem_range.mp hk
  match k, hk with
  | 0, _ => exact xw_1485
  | 1, _ => exact xw_1486
  | 2, _ => exact xw_1487
  | 3, _ => exact xw_1488
  | 4, _ => exact xw_1489
  | 5, _ => exact xw_1490
  | 6, _ => exact xw_1491
  | 7, _ => exact xw_1492
  | 8, _ => exact xw_1493
  | 9, _ => exact xw_1494
  | 10, _ => exact xw_1495
  | 11, _ => exact xw_1496
  | 12, _ => exact xw_1497
  | 13, _ => exact xw_1498
  | 14, _ => exact xw_1499
  | n + 15, hk => omega
theorem xC_1 : x_Cls xBIG "ExpressHouse$Tokens" xF_1 15 xt_1 := by
  refine ⟨fun w hw => ?_, by decide +kernel, by decide +kernel, by decide +kernel⟩
  obtain ⟨k, hk, rfl⟩ := List.mem_map.mp hw
  have hk := List.mem_range.mp hk
  match k, hk with
  | 0, _ => exact xw_1500
  | 1, _ => exact xw_1501
  | 2, _ => exact xw_1502
  | 3, _ => exact xw_1503
  | 4, _ => exact xw_1504
  | 5, _ => exact xw_1505
  | 6, _ => exact xw_1506
  | 7, _ => exact xw_1507
  | 8, _ => exact xw_1508
  | 9, _ => exact xw_1509
  | 10, _ => exact xw_1510
  | 11, _ => exact xw_1511
  | 12, _ => exact xw_1512
  | 13, _ => exact xw_1513
  | 14, _ => exact xw_1514
  | n + 15, hk => omega
theorem xC_2 : x_Cls xBIG "ExpressHouse$Population" xF_2 12 xt_2 := by
  refine ⟨fun w hw => ?_, by decide +kernel, by decide +kernel, by decide +kernel⟩
  obtain ⟨k, hk, rfl⟩ := List.mem_map.mp hw
  have hk := List.mem_range.mp hk
  match k, hk with
  | 0, _ => exact xw_1515
  | 1, _ => exact xw_1516
  | 2, _ => exact xw_1517
  | 3, _ => exact xw_1518
  | 4, _ => exact xw_1519
  | 5, _ => exact xw_1520
  | 6, _ => exact xw_1521
  | 7, _ => exact xw_1522
  | 8, _ => exact xw_1523
  | 9, _ => exact xw_1524
  | 10, _ => exact xw_1525
  | 11, _ => exact xw_1526
  | n + 12, hk => omega
theorem xC_3 : x_Cls xBIG "ExpressHouse$Schema" xF_3 19 xt_3 := by
  refine ⟨fun w hw => ?_, by decide +kernel, by decide +kernel, by decide +kernel⟩
  obtain ⟨k, hk, rfl⟩ := List.mem_map.mp hw
  have hk := List.mem_range.mp hk
  match k, hk with
  | 0, _ => exact xw_1527
  | 1, _ => exact xw_1528
  | 2, _ => exact xw_1529
  | 3, _ => exact xw_1530
  | 4, _ => exact xw_1531
  | 5, _ => exact xw_1532
  | 6, _ => exact xw_1533
  | 7, _ => exact xw_1534
  | 8, _ => exact xw_1535
  | 9, _ => exact xw_1536
  | 10, _ => exact xw_1537
  | 11, _ => exact xw_1538
  | 12, _ => exact xw_1539
  | 13, _ => exact xw_1540
  | 14, _ => exact xw_1541
  | 15, _ => exact xw_1542
  | 16, _ => exact xw_1543
  | 17, _ => exact xw_1544
  | 18, _ => exact xw_1545
  | n + 19, hk => omega
theorem xC_4 : x_Cls xBIG "ExpressHouse$Expressions" xF_4 12 xt_4 := by
  refine ⟨fun w hw => ?_, by decide +kernel, by decide +kernel, by decide +kernel⟩
  obtain ⟨k, hk, rfl⟩ := List.mem_map.mp hw
  have hk := List.mem_range.mp hk
  match k, hk with
  | 0, _ => exact xw_1546
  | 1, _ => exact xw_1547
  | 2, _ => exact xw_1548
  | 3, _ => exact xw_1549
  | 4, _ => exact xw_1550
  | 5, _ => exact xw_1551
  | 6, _ => exact xw_1552
  | 7, _ => exact xw_1553
  | 8, _ => exact xw_1554
  | 9, _ => exact xw_1555
  | 10, _ => exact xw_1556
  | 11, _ => exact xw_1557
  | n + 12, hk => omega
theorem xC_5 : x_Cls xBIG "ExpressHouse$SchemaReader" xF_5 10 xt_5 := by
  refine ⟨fun w hw => ?_, by decide +kernel, by decide +kernel, by decide +kernel⟩
  obtain ⟨k, hk, rfl⟩ := List.mem_map.mp hw
  have hk := List.mem_range.mp hk
  match k, hk with
  | 0, _ => exact xw_1558
  | 1, _ => exact xw_1559
  | 2, _ => exact xw_1560
  | 3, _ => exact xw_1561
  | 4, _ => exact xw_1562
  | 5, _ => exact xw_1563
  | 6, _ => exact xw_1564
  | 7, _ => exact xw_1565
  | 8, _ => exact xw_1566
  | 9, _ => exact xw_1567
  | n + 10, hk => omega
theorem xC_6 : x_Cls xBIG "ExpressHouse$Machine" xF_6 20 xt_6 := by
  refine ⟨fun w hw => ?_, by decide +kernel, by decide +kernel, by decide +kernel⟩
  obtain ⟨k, hk, rfl⟩ := List.mem_map.mp hw
  have hk := List.mem_range.mp hk
  match k, hk with
  | 0, _ => exact xw_1568
  | 1, _ => exact xw_1569
  | 2, _ => exact xw_1570
  | 3, _ => exact xw_1571
  | 4, _ => exact xw_1572
  | 5, _ => exact xw_1573
  | 6, _ => exact xw_1574
  | 7, _ => exact xw_1575
  | 8, _ => exact xw_1576
  | 9, _ => exact xw_1577
  | 10, _ => exact xw_1578
  | 11, _ => exact xw_1579
  | 12, _ => exact xw_1580
  | 13, _ => exact xw_1581
  | 14, _ => exact xw_1582
  | 15, _ => exact xw_1583
  | 16, _ => exact xw_1584
  | 17, _ => exact xw_1585
  | 18, _ => exact xw_1586
  | 19, _ => exact xw_1587
  | n + 20, hk => omega
theorem xC_7 : x_Cls xBIG "ExpressHouse$Judge" xF_7 6 xt_7 := by
  refine ⟨fun w hw => ?_, by decide +kernel, by decide +kernel, by decide +kernel⟩
  obtain ⟨k, hk, rfl⟩ := List.mem_map.mp hw
  have hk := List.mem_range.mp hk
  match k, hk with
  | 0, _ => exact xw_1588
  | 1, _ => exact xw_1589
  | 2, _ => exact xw_1590
  | 3, _ => exact xw_1591
  | 4, _ => exact xw_1592
  | 5, _ => exact xw_1593
  | n + 6, hk => omega
theorem xC_8 : x_Cls xBIG "ExpressHouse$FileReader" xF_8 20 xt_8 := by
  refine ⟨fun w hw => ?_, by decide +kernel, by decide +kernel, by decide +kernel⟩
  obtain ⟨k, hk, rfl⟩ := List.mem_map.mp hw
  have hk := List.mem_range.mp hk
  match k, hk with
  | 0, _ => exact xw_1594
  | 1, _ => exact xw_1595
  | 2, _ => exact xw_1596
  | 3, _ => exact xw_1597
  | 4, _ => exact xw_1598
  | 5, _ => exact xw_1599
  | 6, _ => exact xw_1600
  | 7, _ => exact xw_1601
  | 8, _ => exact xw_1602
  | 9, _ => exact xw_1603
  | 10, _ => exact xw_1604
  | 11, _ => exact xw_1605
  | 12, _ => exact xw_1606
  | 13, _ => exact xw_1607
  | 14, _ => exact xw_1608
  | 15, _ => exact xw_1609
  | 16, _ => exact xw_1610
  | 17, _ => exact xw_1611
  | 18, _ => exact xw_1612
  | 19, _ => exact xw_1613
  | n + 20, hk => omega
theorem xC_9 : x_Cls xBIG "ExpressHouse$FileWriter" xF_9 5 xt_9 := by
  refine ⟨fun w hw => ?_, by decide +kernel, by decide +kernel, by decide +kernel⟩
  obtain ⟨k, hk, rfl⟩ := List.mem_map.mp hw
  have hk := List.mem_range.mp hk
  match k, hk with
  | 0, _ => exact xw_1614
  | 1, _ => exact xw_1615
  | 2, _ => exact xw_1616
  | 3, _ => exact xw_1617
  | 4, _ => exact xw_1618
  | n + 5, hk => omega
theorem xC_10 : x_Cls xBIG "ExpressHouse$Value" xF_10 7 xt_10 := by
  refine ⟨fun w hw => ?_, by decide +kernel, by decide +kernel, by decide +kernel⟩
  obtain ⟨k, hk, rfl⟩ := List.mem_map.mp hw
  have hk := List.mem_range.mp hk
  match k, hk with
  | 0, _ => exact xw_1619
  | 1, _ => exact xw_1620
  | 2, _ => exact xw_1621
  | 3, _ => exact xw_1622
  | 4, _ => exact xw_1623
  | 5, _ => exact xw_1624
  | 6, _ => exact xw_1625
  | n + 7, hk => omega
theorem xC_11 : x_Cls xBIG "ExpressHouse$Operators" xF_11 3 xt_11 := by
  refine ⟨fun w hw => ?_, by decide +kernel, by decide +kernel, by decide +kernel⟩
  obtain ⟨k, hk, rfl⟩ := List.mem_map.mp hw
  have hk := List.mem_range.mp hk
  match k, hk with
  | 0, _ => exact xw_1626
  | 1, _ => exact xw_1627
  | 2, _ => exact xw_1628
  | n + 3, hk => omega
def xy_0 : MethodName := ⟨"ExpressHouse", "<init>", "()V"⟩
def xk_0 : Cond := .code ⟨"ExpressHouse", "<init>", "()V"⟩ prog_1_method_1_code 1 none
def xy_1 : MethodName := ⟨"ExpressHouseLaw", "cell", "([II)I"⟩
def xk_1 : Cond := .code ⟨"ExpressHouseLaw", "cell", "([II)I"⟩ method_2_code 2 (some .int)
def xy_2 : MethodName := ⟨"ExpressHouseLaw", "low", "(II)I"⟩
def xk_2 : Cond := .code ⟨"ExpressHouseLaw", "low", "(II)I"⟩ method_3_code 2 (some .int)
def xy_3 : MethodName := ⟨"ExpressHouseLaw", "tell", "(LExpressHouse;)Z"⟩
def xk_3 : Cond := .code ⟨"ExpressHouseLaw", "tell", "(LExpressHouse;)Z"⟩ method_6_code 1 (some .boolean)
def xy_4 : MethodName := ⟨"ExpressHouseLaw", "call", "(LExpressHouse;I)I"⟩
def xk_4 : Cond := .code ⟨"ExpressHouseLaw", "call", "(LExpressHouse;I)I"⟩ method_8_code 5 (some .int)
def xy_5 : MethodName := ⟨"ExpressHouseLaw", "putNumber", "(LExpressHouse;I)Z"⟩
def xk_5 : Cond := .code ⟨"ExpressHouseLaw", "putNumber", "(LExpressHouse;I)Z"⟩ method_5_code 5 (some .boolean)
def xy_6 : MethodName := ⟨"ExpressHouseLaw", "put", "(LExpressHouse;I)Z"⟩
def xk_6 : Cond := .code ⟨"ExpressHouseLaw", "put", "(LExpressHouse;I)Z"⟩ method_4_code 2 (some .boolean)
def xy_7 : MethodName := ⟨"ExpressHouseLaw", "done", "(LExpressHouse;I)I"⟩
def xk_7 : Cond := .code ⟨"ExpressHouseLaw", "done", "(LExpressHouse;I)I"⟩ method_7_code 3 (some .int)
def xy_8 : MethodName := ⟨"ExpressHouseLaw", "refuses", "(LExpressHouse;I)Z"⟩
def xk_8 : Cond := .code ⟨"ExpressHouseLaw", "refuses", "(LExpressHouse;I)Z"⟩ method_9_code 4 (some .boolean)
def xy_9 : MethodName := ⟨"ExpressHouse$Tokens", "<init>", "()V"⟩
def xk_9 : Cond := .code ⟨"ExpressHouse$Tokens", "<init>", "()V"⟩ prog_12_method_1_code 1 none
def xy_10 : MethodName := ⟨"ExpressHouse$Schema", "<init>", "()V"⟩
def xk_10 : Cond := .code ⟨"ExpressHouse$Schema", "<init>", "()V"⟩ prog_10_method_1_code 1 none
def xy_11 : MethodName := ⟨"ExpressHouse$Population", "<init>", "(LExpressHouse$Schema;)V"⟩
def xk_11 : Cond := .code ⟨"ExpressHouse$Population", "<init>", "(LExpressHouse$Schema;)V"⟩ prog_8_method_1_code 3 none
def xy_12 : MethodName := ⟨"ExpressHouse$Expressions", "<init>", "(LExpressHouse$Tokens;LExpressHouse$Schema;)V"⟩
def xk_12 : Cond := .code ⟨"ExpressHouse$Expressions", "<init>", "(LExpressHouse$Tokens;LExpressHouse$Schema;)V"⟩ prog_2_method_1_code 3 none
def xy_13 : MethodName := ⟨"ExpressHouse$SchemaReader", "<init>", "(LExpressHouse$Tokens;LExpressHouse$Expressions;)V"⟩
def xk_13 : Cond := .code ⟨"ExpressHouse$SchemaReader", "<init>", "(LExpressHouse$Tokens;LExpressHouse$Expressions;)V"⟩ prog_11_method_1_code 3 none
def xy_14 : MethodName := ⟨"ExpressHouse$Machine", "<init>", "(LExpressHouse$Population;)V"⟩
def xk_14 : Cond := .code ⟨"ExpressHouse$Machine", "<init>", "(LExpressHouse$Population;)V"⟩ prog_6_method_1_code 3 none
def xy_15 : MethodName := ⟨"ExpressHouse$Judge", "<init>", "(LExpressHouse$Population;LExpressHouse$Machine;)V"⟩
def xk_15 : Cond := .code ⟨"ExpressHouse$Judge", "<init>", "(LExpressHouse$Population;LExpressHouse$Machine;)V"⟩ prog_5_method_1_code 3 none
def xy_16 : MethodName := ⟨"ExpressHouse$FileReader", "<init>", "(LExpressHouse$Population;LExpressHouse$Tokens;)V"⟩
def xk_16 : Cond := .code ⟨"ExpressHouse$FileReader", "<init>", "(LExpressHouse$Population;LExpressHouse$Tokens;)V"⟩ prog_3_method_1_code 3 none
def xy_17 : MethodName := ⟨"ExpressHouse$FileWriter", "<init>", "(LExpressHouse$Population;)V"⟩
def xk_17 : Cond := .code ⟨"ExpressHouse$FileWriter", "<init>", "(LExpressHouse$Population;)V"⟩ prog_4_method_1_code 2 none
def xy_18 : MethodName := ⟨"ExpressHouse$Value", "<init>", "(IJ)V"⟩
def xk_18 : Cond := .code ⟨"ExpressHouse$Value", "<init>", "(IJ)V"⟩ prog_13_method_1_code 4 none
def xy_19 : MethodName := ⟨"ExpressHouse", "emptyHands", "()V"⟩
def xk_19 : Cond := .code ⟨"ExpressHouse", "emptyHands", "()V"⟩ prog_1_method_6_code 2 none
def xy_20 : MethodName := ⟨"ExpressHouse", "feed", "(IIIII)I"⟩
def xk_20 : Cond := .code ⟨"ExpressHouse", "feed", "(IIIII)I"⟩ prog_1_method_2_code 6 (some .int)
def xy_21 : MethodName := ⟨"ExpressHouse", "cut", "(I)I"⟩
def xk_21 : Cond := .code ⟨"ExpressHouse", "cut", "(I)I"⟩ prog_1_method_4_code 2 (some .int)
def xy_22 : MethodName := ⟨"ExpressHouse", "schema", "()I"⟩
def xk_22 : Cond := .code ⟨"ExpressHouse", "schema", "()I"⟩ prog_1_method_5_code 2 (some .int)
def xy_23 : MethodName := ⟨"ExpressHouse", "make", "(I)I"⟩
def xk_23 : Cond := .code ⟨"ExpressHouse", "make", "(I)I"⟩ prog_1_method_14_code 3 (some .int)
def xy_24 : MethodName := ⟨"ExpressHouse", "set", "(II)I"⟩
def xk_24 : Cond := .code ⟨"ExpressHouse", "set", "(II)I"⟩ prog_1_method_17_code 6 (some .int)
def xy_25 : MethodName := ⟨"ExpressHouse", "drop", "(I)I"⟩
def xk_25 : Cond := .code ⟨"ExpressHouse", "drop", "(I)I"⟩ prog_1_method_15_code 2 (some .int)
def xy_26 : MethodName := ⟨"ExpressHouse", "get", "(II)I"⟩
def xk_26 : Cond := .code ⟨"ExpressHouse", "get", "(II)I"⟩ prog_1_method_19_code 3 (some .int)
def xy_27 : MethodName := ⟨"ExpressHouse", "judge", "(I)I"⟩
def xk_27 : Cond := .code ⟨"ExpressHouse", "judge", "(I)I"⟩ prog_1_method_37_code 4 (some .int)
def xy_28 : MethodName := ⟨"ExpressHouse", "work", "()I"⟩
def xk_28 : Cond := .code ⟨"ExpressHouse", "work", "()I"⟩ prog_1_method_21_code 2 (some .int)
def xy_29 : MethodName := ⟨"ExpressHouse", "write", "()I"⟩
def xk_29 : Cond := .code ⟨"ExpressHouse", "write", "()I"⟩ prog_1_method_39_code 2 (some .int)
def xy_30 : MethodName := ⟨"ExpressHouse", "count", "(I)I"⟩
def xk_30 : Cond := .code ⟨"ExpressHouse", "count", "(I)I"⟩ prog_1_method_8_code 3 (some .int)
def xy_31 : MethodName := ⟨"ExpressHouse", "row", "(I)I"⟩
def xk_31 : Cond := .code ⟨"ExpressHouse", "row", "(I)I"⟩ prog_1_method_16_code 2 (some .int)
def xy_32 : MethodName := ⟨"ExpressHouse", "keep", "(I)I"⟩
def xk_32 : Cond := .code ⟨"ExpressHouse", "keep", "(I)I"⟩ prog_1_method_25_code 2 (some .int)
def xy_33 : MethodName := ⟨"ExpressHouse", "commit", "()I"⟩
def xk_33 : Cond := .code ⟨"ExpressHouse", "commit", "()I"⟩ prog_1_method_44_code 1 (some .int)
def xy_34 : MethodName := ⟨"ExpressHouse", "abort", "()I"⟩
def xk_34 : Cond := .code ⟨"ExpressHouse", "abort", "()I"⟩ prog_1_method_45_code 2 (some .int)
def xy_35 : MethodName := ⟨"ExpressHouse", "take", "(I)I"⟩
def xk_35 : Cond := .code ⟨"ExpressHouse", "take", "(I)I"⟩ prog_1_method_27_code 2 (some .int)
def xy_36 : MethodName := ⟨"ExpressHouse", "combinations", "(I)I"⟩
def xk_36 : Cond := .code ⟨"ExpressHouse", "combinations", "(I)I"⟩ prog_1_method_13_code 2 (some .int)
def xy_37 : MethodName := ⟨"ExpressHouse", "fault", "()I"⟩
def xk_37 : Cond := .code ⟨"ExpressHouse", "fault", "()I"⟩ prog_1_method_7_code 1 (some .int)
def xy_38 : MethodName := ⟨"ExpressHouse", "read", "()I"⟩
def xk_38 : Cond := .code ⟨"ExpressHouse", "read", "()I"⟩ prog_1_method_41_code 3 (some .int)
def xy_39 : MethodName := ⟨"ExpressHouse$Tokens", "codesOf", "(Ljava/lang/String;)[J"⟩
def xk_39 : Cond := .code ⟨"ExpressHouse$Tokens", "codesOf", "(Ljava/lang/String;)[J"⟩ prog_12_method_2_code 5 (some (.array (.long)))
def xy_40 : MethodName := ⟨"ExpressHouse$Operators", "<init>", "(LExpressHouse$Population;)V"⟩
def xk_40 : Cond := .code ⟨"ExpressHouse$Operators", "<init>", "(LExpressHouse$Population;)V"⟩ prog_7_method_1_code 2 none
def xy_41 : MethodName := ⟨"ExpressHouse", "append", "(I)V"⟩
def xk_41 : Cond := .code ⟨"ExpressHouse", "append", "(I)V"⟩ prog_1_method_3_code 3 none
def xy_42 : MethodName := ⟨"ExpressHouse$Tokens", "load", "([BI)V"⟩
def xk_42 : Cond := .code ⟨"ExpressHouse$Tokens", "load", "([BI)V"⟩ prog_12_method_9_code 8 none
def xy_43 : MethodName := ⟨"ExpressHouse$SchemaReader", "start", "()V"⟩
def xk_43 : Cond := .code ⟨"ExpressHouse$SchemaReader", "start", "()V"⟩ prog_11_method_3_code 1 none
def xy_44 : MethodName := ⟨"ExpressHouse$SchemaReader", "readThrough", "(I)V"⟩
def xk_44 : Cond := .code ⟨"ExpressHouse$SchemaReader", "readThrough", "(I)V"⟩ prog_11_method_4_code 4 none
def xy_45 : MethodName := ⟨"ExpressHouse$Tokens", "outcome", "()I"⟩
def xk_45 : Cond := .code ⟨"ExpressHouse$Tokens", "outcome", "()I"⟩ prog_12_method_24_code 1 (some .int)
def xy_46 : MethodName := ⟨"ExpressHouse$SchemaReader", "exchange", "(LExpressHouse$Schema;)LExpressHouse$Schema;"⟩
def xk_46 : Cond := .code ⟨"ExpressHouse$SchemaReader", "exchange", "(LExpressHouse$Schema;)LExpressHouse$Schema;"⟩ prog_11_method_2_code 3 (some (.object "ExpressHouse$Schema"))
def xy_47 : MethodName := ⟨"ExpressHouse$Population", "clear", "()V"⟩
def xk_47 : Cond := .code ⟨"ExpressHouse$Population", "clear", "()V"⟩ prog_8_method_2_code 1 none
def xy_48 : MethodName := ⟨"ExpressHouse$Judge", "clear", "()V"⟩
def xk_48 : Cond := .code ⟨"ExpressHouse$Judge", "clear", "()V"⟩ prog_5_method_2_code 1 none
def xy_49 : MethodName := ⟨"ExpressHouse$FileReader", "forget", "()V"⟩
def xk_49 : Cond := .code ⟨"ExpressHouse$FileReader", "forget", "()V"⟩ prog_3_method_2_code 1 none
def xy_50 : MethodName := ⟨"ExpressHouse$Schema", "knows", "(I)Z"⟩
def xk_50 : Cond := .code ⟨"ExpressHouse$Schema", "knows", "(I)Z"⟩ prog_10_method_29_code 2 (some .boolean)
def xy_51 : MethodName := ⟨"ExpressHouse$Schema", "reason", "(I)I"⟩
def xk_51 : Cond := .code ⟨"ExpressHouse$Schema", "reason", "(I)I"⟩ prog_10_method_30_code 3 (some .int)
def xy_52 : MethodName := ⟨"ExpressHouse$Population", "add", "(I)I"⟩
def xk_52 : Cond := .code ⟨"ExpressHouse$Population", "add", "(I)I"⟩ prog_8_method_10_code 3 (some .int)
def xy_53 : MethodName := ⟨"ExpressHouse$Population", "has", "(II)Z"⟩
def xk_53 : Cond := .code ⟨"ExpressHouse$Population", "has", "(II)Z"⟩ prog_8_method_7_code 3 (some .boolean)
def xy_54 : MethodName := ⟨"ExpressHouse", "readExpression", "()I"⟩
def xk_54 : Cond := .code ⟨"ExpressHouse", "readExpression", "()I"⟩ prog_1_method_18_code 3 (some .int)
def xy_55 : MethodName := ⟨"ExpressHouse$Population", "prepare", "()V"⟩
def xk_55 : Cond := .code ⟨"ExpressHouse$Population", "prepare", "()V"⟩ prog_8_method_22_code 3 none
def xy_56 : MethodName := ⟨"ExpressHouse$Machine", "run", "(ILExpressHouse$Value;)LExpressHouse$Value;"⟩
def xk_56 : Cond := .code ⟨"ExpressHouse$Machine", "run", "(ILExpressHouse$Value;)LExpressHouse$Value;"⟩ prog_6_method_2_code 5 (some (.object "ExpressHouse$Value"))
def xy_57 : MethodName := ⟨"ExpressHouse$Population", "converted", "(LExpressHouse$Value;I)LExpressHouse$Value;"⟩
def xk_57 : Cond := .code ⟨"ExpressHouse$Population", "converted", "(LExpressHouse$Value;I)LExpressHouse$Value;"⟩ prog_8_method_27_code 9 (some (.object "ExpressHouse$Value"))
def xy_58 : MethodName := ⟨"ExpressHouse$Population", "fits", "(LExpressHouse$Value;I)Z"⟩
def xk_58 : Cond := .code ⟨"ExpressHouse$Population", "fits", "(LExpressHouse$Value;I)Z"⟩ prog_8_method_29_code 10 (some .boolean)
def xy_59 : MethodName := ⟨"ExpressHouse$Population", "hold", "(IILExpressHouse$Value;)V"⟩
def xk_59 : Cond := .code ⟨"ExpressHouse$Population", "hold", "(IILExpressHouse$Value;)V"⟩ prog_8_method_9_code 4 none
def xy_60 : MethodName := ⟨"ExpressHouse$Population", "exists", "(I)Z"⟩
def xk_60 : Cond := .code ⟨"ExpressHouse$Population", "exists", "(I)Z"⟩ prog_8_method_3_code 2 (some .boolean)
def xy_61 : MethodName := ⟨"ExpressHouse$Population", "remove", "(I)V"⟩
def xk_61 : Cond := .code ⟨"ExpressHouse$Population", "remove", "(I)V"⟩ prog_8_method_14_code 5 none
def xy_62 : MethodName := ⟨"ExpressHouse$Schema", "codeOfAccess", "(I)I"⟩
def xk_62 : Cond := .code ⟨"ExpressHouse$Schema", "codeOfAccess", "(I)I"⟩ prog_10_method_24_code 2 (some .int)
def xy_63 : MethodName := ⟨"ExpressHouse", "runToHand", "(ILExpressHouse$Value;)I"⟩
def xk_63 : Cond := .code ⟨"ExpressHouse", "runToHand", "(ILExpressHouse$Value;)I"⟩ prog_1_method_20_code 4 (some .int)
def xy_64 : MethodName := ⟨"ExpressHouse$Schema", "ruleCount", "()I"⟩
def xk_64 : Cond := .code ⟨"ExpressHouse$Schema", "ruleCount", "()I"⟩ prog_10_method_26_code 1 (some .int)
def xy_65 : MethodName := ⟨"ExpressHouse$Schema", "ruleOwner", "(I)I"⟩
def xk_65 : Cond := .code ⟨"ExpressHouse$Schema", "ruleOwner", "(I)I"⟩ prog_10_method_28_code 3 (some .int)
def xy_66 : MethodName := ⟨"ExpressHouse$Schema", "ruleSort", "(I)I"⟩
def xk_66 : Cond := .code ⟨"ExpressHouse$Schema", "ruleSort", "(I)I"⟩ prog_10_method_27_code 3 (some .int)
def xy_67 : MethodName := ⟨"ExpressHouse$Judge", "judgeBounds", "(I)I"⟩
def xk_67 : Cond := .code ⟨"ExpressHouse$Judge", "judgeBounds", "(I)I"⟩ prog_5_method_6_code 3 (some .int)
def xy_68 : MethodName := ⟨"ExpressHouse$Judge", "judgeUnique", "(I)I"⟩
def xk_68 : Cond := .code ⟨"ExpressHouse$Judge", "judgeUnique", "(I)I"⟩ prog_5_method_10_code 3 (some .int)
def xy_69 : MethodName := ⟨"ExpressHouse$Judge", "judgeEntity", "(I)I"⟩
def xk_69 : Cond := .code ⟨"ExpressHouse$Judge", "judgeEntity", "(I)I"⟩ prog_5_method_13_code 6 (some .int)
def xy_70 : MethodName := ⟨"ExpressHouse$Judge", "judgeType", "(I)I"⟩
def xk_70 : Cond := .code ⟨"ExpressHouse$Judge", "judgeType", "(I)I"⟩ prog_5_method_14_code 9 (some .int)
def xy_71 : MethodName := ⟨"ExpressHouse$Judge", "judgeText", "(I)I"⟩
def xk_71 : Cond := .code ⟨"ExpressHouse$Judge", "judgeText", "(I)I"⟩ prog_5_method_16_code 5 (some .int)
def xy_72 : MethodName := ⟨"ExpressHouse$FileWriter", "start", "()V"⟩
def xk_72 : Cond := .code ⟨"ExpressHouse$FileWriter", "start", "()V"⟩ prog_4_method_2_code 1 none
def xy_73 : MethodName := ⟨"ExpressHouse$Population", "rowOf", "(I)I"⟩
def xk_73 : Cond := .code ⟨"ExpressHouse$Population", "rowOf", "(I)I"⟩ prog_8_method_5_code 2 (some .int)
def xy_74 : MethodName := ⟨"ExpressHouse$FileWriter", "instance", "(II)V"⟩
def xk_74 : Cond := .code ⟨"ExpressHouse$FileWriter", "instance", "(II)V"⟩ prog_4_method_5_code 5 none
def xy_75 : MethodName := ⟨"ExpressHouse$FileWriter", "finish", "()I"⟩
def xk_75 : Cond := .code ⟨"ExpressHouse$FileWriter", "finish", "()I"⟩ prog_4_method_3_code 2 (some .int)
def xy_76 : MethodName := ⟨"ExpressHouse$Population", "existing", "()I"⟩
def xk_76 : Cond := .code ⟨"ExpressHouse$Population", "existing", "()I"⟩ prog_8_method_4_code 3 (some .int)
def xy_77 : MethodName := ⟨"ExpressHouse$Population", "discard", "()Z"⟩
def xk_77 : Cond := .code ⟨"ExpressHouse$Population", "discard", "()Z"⟩ prog_8_method_32_code 2 (some .boolean)
def xy_78 : MethodName := ⟨"ExpressHouse$Population", "restore", "()Z"⟩
def xk_78 : Cond := .code ⟨"ExpressHouse$Population", "restore", "()Z"⟩ prog_8_method_33_code 1 (some .boolean)
def xy_79 : MethodName := ⟨"ExpressHouse$Value", "<init>", "(IIII[J)V"⟩
def xk_79 : Cond := .code ⟨"ExpressHouse$Value", "<init>", "(IIII[J)V"⟩ prog_13_method_2_code 6 none
def xy_80 : MethodName := ⟨"ExpressHouse$Schema", "combinationsWith", "(I)I"⟩
def xk_80 : Cond := .code ⟨"ExpressHouse$Schema", "combinationsWith", "(I)I"⟩ prog_10_method_36_code 2 (some .int)
def xy_81 : MethodName := ⟨"ExpressHouse$FileReader", "start", "([BI)V"⟩
def xk_81 : Cond := .code ⟨"ExpressHouse$FileReader", "start", "([BI)V"⟩ prog_3_method_4_code 3 none
def xy_82 : MethodName := ⟨"ExpressHouse$FileReader", "startReading", "(Z)V"⟩
def xk_82 : Cond := .code ⟨"ExpressHouse$FileReader", "startReading", "(Z)V"⟩ prog_3_method_5_code 3 none
def xy_83 : MethodName := ⟨"ExpressHouse$FileReader", "goesOn", "()Z"⟩
def xk_83 : Cond := .code ⟨"ExpressHouse$FileReader", "goesOn", "()Z"⟩ prog_3_method_6_code 1 (some .boolean)
def xy_84 : MethodName := ⟨"ExpressHouse$FileReader", "entryPart", "()V"⟩
def xk_84 : Cond := .code ⟨"ExpressHouse$FileReader", "entryPart", "()V"⟩ prog_3_method_13_code 4 none
def xy_85 : MethodName := ⟨"ExpressHouse$FileReader", "finish", "()I"⟩
def xk_85 : Cond := .code ⟨"ExpressHouse$FileReader", "finish", "()I"⟩ prog_3_method_7_code 1 (some .int)
def xy_86 : MethodName := ⟨"ExpressHouse$Tokens", "digitOf", "(I)I"⟩
def xk_86 : Cond := .code ⟨"ExpressHouse$Tokens", "digitOf", "(I)I"⟩ prog_12_method_3_code 1 (some .int)
def xy_87 : MethodName := ⟨"ExpressHouse$Tokens", "isBlank", "(I)Z"⟩
def xk_87 : Cond := .code ⟨"ExpressHouse$Tokens", "isBlank", "(I)Z"⟩ prog_12_method_6_code 1 (some .boolean)
def xy_88 : MethodName := ⟨"ExpressHouse$Tokens", "scan", "([BII)I"⟩
def xk_88 : Cond := .code ⟨"ExpressHouse$Tokens", "scan", "([BII)I"⟩ prog_12_method_11_code 7 (some .int)
def xy_89 : MethodName := ⟨"ExpressHouse$Tokens", "add", "(IIJ)V"⟩
def xk_89 : Cond := .code ⟨"ExpressHouse$Tokens", "add", "(IIJ)V"⟩ prog_12_method_10_code 5 none
def xy_90 : MethodName := ⟨"ExpressHouse$Tokens", "rewind", "()V"⟩
def xk_90 : Cond := .code ⟨"ExpressHouse$Tokens", "rewind", "()V"⟩ prog_12_method_17_code 1 none
def xy_91 : MethodName := ⟨"ExpressHouse$Schema", "clear", "()V"⟩
def xk_91 : Cond := .code ⟨"ExpressHouse$Schema", "clear", "()V"⟩ prog_10_method_3_code 2 none
def xy_92 : MethodName := ⟨"ExpressHouse$Expressions", "startPass", "(LExpressHouse$Schema;Z)V"⟩
def xk_92 : Cond := .code ⟨"ExpressHouse$Expressions", "startPass", "(LExpressHouse$Schema;Z)V"⟩ prog_2_method_2_code 3 none
def xy_93 : MethodName := ⟨"java/util/Arrays", "fill", "([II)V"⟩
def xk_93 : Cond := .code ⟨"java/util/Arrays", "fill", "([II)V"⟩ prog_46_method_103_code 4 none
def xy_94 : MethodName := ⟨"ExpressHouse$Tokens", "expect", "(I)V"⟩
def xk_94 : Cond := .code ⟨"ExpressHouse$Tokens", "expect", "(I)V"⟩ prog_12_method_20_code 2 none
def xy_95 : MethodName := ⟨"ExpressHouse$SchemaReader", "type", "()V"⟩
def xk_95 : Cond := .code ⟨"ExpressHouse$SchemaReader", "type", "()V"⟩ prog_11_method_8_code 3 none
def xy_96 : MethodName := ⟨"ExpressHouse$SchemaReader", "entityPart", "()V"⟩
def xk_96 : Cond := .code ⟨"ExpressHouse$SchemaReader", "entityPart", "()V"⟩ prog_11_method_19_code 4 none
def xy_97 : MethodName := ⟨"ExpressHouse$SchemaReader", "function", "()V"⟩
def xk_97 : Cond := .code ⟨"ExpressHouse$SchemaReader", "function", "()V"⟩ prog_11_method_34_code 4 none
def xy_98 : MethodName := ⟨"ExpressHouse$SchemaReader", "textRule", "()V"⟩
def xk_98 : Cond := .code ⟨"ExpressHouse$SchemaReader", "textRule", "()V"⟩ prog_11_method_18_code 2 none
def xy_99 : MethodName := ⟨"ExpressHouse$SchemaReader", "finish", "()V"⟩
def xk_99 : Cond := .code ⟨"ExpressHouse$SchemaReader", "finish", "()V"⟩ prog_11_method_5_code 1 none
def xy_100 : MethodName := ⟨"ExpressHouse$Schema", "complete", "()V"⟩
def xk_100 : Cond := .code ⟨"ExpressHouse$Schema", "complete", "()V"⟩ prog_10_method_12_code 4 none
def xy_101 : MethodName := ⟨"ExpressHouse$Schema", "isConnected", "(I)Z"⟩
def xk_101 : Cond := .code ⟨"ExpressHouse$Schema", "isConnected", "(I)Z"⟩ prog_10_method_31_code 6 (some .boolean)
def xy_102 : MethodName := ⟨"ExpressHouse$Schema", "reasonOfParts", "(I)I"⟩
def xk_102 : Cond := .code ⟨"ExpressHouse$Schema", "reasonOfParts", "(I)I"⟩ prog_10_method_32_code 3 (some .int)
def xy_103 : MethodName := ⟨"ExpressHouse$Population", "empty", "(I)V"⟩
def xk_103 : Cond := .code ⟨"ExpressHouse$Population", "empty", "(I)V"⟩ prog_8_method_11_code 3 none
def xy_104 : MethodName := ⟨"ExpressHouse$Population", "isA", "(II)Z"⟩
def xk_104 : Cond := .code ⟨"ExpressHouse$Population", "isA", "(II)Z"⟩ prog_8_method_6_code 3 (some .boolean)
def xy_105 : MethodName := ⟨"ExpressHouse$Expressions", "readAlone", "(LExpressHouse$Schema;)I"⟩
def xk_105 : Cond := .code ⟨"ExpressHouse$Expressions", "readAlone", "(LExpressHouse$Schema;)I"⟩ prog_2_method_4_code 2 (some .int)
def xy_106 : MethodName := ⟨"ExpressHouse$Population", "part", "()Z"⟩
def xk_106 : Cond := .code ⟨"ExpressHouse$Population", "part", "()Z"⟩ prog_8_method_23_code 4 (some .boolean)
def xy_107 : MethodName := ⟨"ExpressHouse$Machine", "openFrame", "(IILExpressHouse$Value;)V"⟩
def xk_107 : Cond := .code ⟨"ExpressHouse$Machine", "openFrame", "(IILExpressHouse$Value;)V"⟩ prog_6_method_8_code 5 none
def xy_108 : MethodName := ⟨"ExpressHouse$Machine", "fetch", "()I"⟩
def xk_108 : Cond := .code ⟨"ExpressHouse$Machine", "fetch", "()I"⟩ prog_6_method_3_code 3 (some .int)
def xy_109 : MethodName := ⟨"ExpressHouse$Machine", "plain", "(I)V"⟩
def xk_109 : Cond := .code ⟨"ExpressHouse$Machine", "plain", "(I)V"⟩ prog_6_method_12_code 5 none
def xy_110 : MethodName := ⟨"ExpressHouse$Machine", "operate", "(I)V"⟩
def xk_110 : Cond := .code ⟨"ExpressHouse$Machine", "operate", "(I)V"⟩ prog_6_method_13_code 9 none
def xy_111 : MethodName := ⟨"ExpressHouse$Machine", "lead", "(I)V"⟩
def xk_111 : Cond := .code ⟨"ExpressHouse$Machine", "lead", "(I)V"⟩ prog_6_method_16_code 4 none
def xy_112 : MethodName := ⟨"ExpressHouse$Machine", "pop", "()LExpressHouse$Value;"⟩
def xk_112 : Cond := .code ⟨"ExpressHouse$Machine", "pop", "()LExpressHouse$Value;"⟩ prog_6_method_5_code 1 (some (.object "ExpressHouse$Value"))
def xy_113 : MethodName := ⟨"ExpressHouse$Population", "convertedScalar", "(LExpressHouse$Value;I)LExpressHouse$Value;"⟩
def xk_113 : Cond := .code ⟨"ExpressHouse$Population", "convertedScalar", "(LExpressHouse$Value;I)LExpressHouse$Value;"⟩ prog_8_method_28_code 3 (some (.object "ExpressHouse$Value"))
def xy_114 : MethodName := ⟨"ExpressHouse$Population", "cellsAlike", "(IJIJ)Z"⟩
def xk_114 : Cond := .code ⟨"ExpressHouse$Population", "cellsAlike", "(IJIJ)Z"⟩ prog_8_method_26_code 8 (some .boolean)
def xy_115 : MethodName := ⟨"java/util/Arrays", "copyOf", "([JI)[J"⟩
def xk_115 : Cond := .code ⟨"java/util/Arrays", "copyOf", "([JI)[J"⟩ prog_46_method_124_code 3 (some (.array (.long)))
def xy_116 : MethodName := ⟨"ExpressHouse$Population", "isAccepted", "(IIJ)Z"⟩
def xk_116 : Cond := .code ⟨"ExpressHouse$Population", "isAccepted", "(IIJ)Z"⟩ prog_8_method_30_code 5 (some .boolean)
def xy_117 : MethodName := ⟨"ExpressHouse$Value", "isHole", "(I)Z"⟩
def xk_117 : Cond := .code ⟨"ExpressHouse$Value", "isHole", "(I)Z"⟩ prog_13_method_5_code 2 (some .boolean)
def xy_118 : MethodName := ⟨"ExpressHouse$Population", "heldBy", "(II)LExpressHouse$Value;"⟩
def xk_118 : Cond := .code ⟨"ExpressHouse$Population", "heldBy", "(II)LExpressHouse$Value;"⟩ prog_8_method_8_code 3 (some (.object "ExpressHouse$Value"))
def xy_119 : MethodName := ⟨"ExpressHouse$Population", "isHolding", "(LExpressHouse$Value;I)Z"⟩
def xk_119 : Cond := .code ⟨"ExpressHouse$Population", "isHolding", "(LExpressHouse$Value;I)Z"⟩ prog_8_method_15_code 4 (some .boolean)
def xy_120 : MethodName := ⟨"ExpressHouse$Population", "without", "(LExpressHouse$Value;I)LExpressHouse$Value;"⟩
def xk_120 : Cond := .code ⟨"ExpressHouse$Population", "without", "(LExpressHouse$Value;I)LExpressHouse$Value;"⟩ prog_8_method_16_code 8 (some (.object "ExpressHouse$Value"))
def xy_121 : MethodName := ⟨"ExpressHouse$Judge", "isBounded", "(II)Z"⟩
def xk_121 : Cond := .code ⟨"ExpressHouse$Judge", "isBounded", "(II)Z"⟩ prog_5_method_7_code 6 (some .boolean)
def xy_122 : MethodName := ⟨"ExpressHouse$Judge", "note", "(II)V"⟩
def xk_122 : Cond := .code ⟨"ExpressHouse$Judge", "note", "(II)V"⟩ prog_5_method_3_code 3 none
def xy_123 : MethodName := ⟨"ExpressHouse$Judge", "isUnique", "(II)Z"⟩
def xk_123 : Cond := .code ⟨"ExpressHouse$Judge", "isUnique", "(II)Z"⟩ prog_5_method_11_code 5 (some .boolean)
def xy_124 : MethodName := ⟨"ExpressHouse$Schema", "startOfWhere", "(II)I"⟩
def xk_124 : Cond := .code ⟨"ExpressHouse$Schema", "startOfWhere", "(II)I"⟩ prog_10_method_25_code 4 (some .int)
def xy_125 : MethodName := ⟨"ExpressHouse$Judge", "verdictOf", "(LExpressHouse$Value;)I"⟩
def xk_125 : Cond := .code ⟨"ExpressHouse$Judge", "verdictOf", "(LExpressHouse$Value;)I"⟩ prog_5_method_17_code 2 (some .int)
def xy_126 : MethodName := ⟨"ExpressHouse$Judge", "worse", "(II)I"⟩
def xk_126 : Cond := .code ⟨"ExpressHouse$Judge", "worse", "(II)I"⟩ prog_5_method_4_code 2 (some .int)
def xy_127 : MethodName := ⟨"ExpressHouse$Judge", "isJust", "(II)Z"⟩
def xk_127 : Cond := .code ⟨"ExpressHouse$Judge", "isJust", "(II)Z"⟩ prog_5_method_15_code 4 (some .boolean)
def xy_128 : MethodName := ⟨"ExpressHouse$FileWriter", "add", "(I)V"⟩
def xk_128 : Cond := .code ⟨"ExpressHouse$FileWriter", "add", "(I)V"⟩ prog_4_method_4_code 2 none
def xy_129 : MethodName := ⟨"ExpressHouse$FileWriter", "number", "(J)V"⟩
def xk_129 : Cond := .code ⟨"ExpressHouse$FileWriter", "number", "(J)V"⟩ prog_4_method_10_code 8 none
def xy_130 : MethodName := ⟨"ExpressHouse$FileWriter", "form", "(III)V"⟩
def xk_130 : Cond := .code ⟨"ExpressHouse$FileWriter", "form", "(III)V"⟩ prog_4_method_6_code 6 none
def xy_131 : MethodName := ⟨"ExpressHouse$Schema", "countCombinations", "()V"⟩
def xk_131 : Cond := .code ⟨"ExpressHouse$Schema", "countCombinations", "()V"⟩ prog_10_method_37_code 3 none
def xy_132 : MethodName := ⟨"ExpressHouse$Population", "announce", "(II)V"⟩
def xk_132 : Cond := .code ⟨"ExpressHouse$Population", "announce", "(II)V"⟩ prog_8_method_12_code 3 none
def xy_133 : MethodName := ⟨"ExpressHouse$FileReader", "blanks", "()V"⟩
def xk_133 : Cond := .code ⟨"ExpressHouse$FileReader", "blanks", "()V"⟩ prog_3_method_9_code 2 none
def xy_134 : MethodName := ⟨"ExpressHouse$FileReader", "reference", "()I"⟩
def xk_134 : Cond := .code ⟨"ExpressHouse$FileReader", "reference", "()I"⟩ prog_3_method_14_code 4 (some .int)
def xy_135 : MethodName := ⟨"ExpressHouse$FileReader", "checkEntry", "(II)V"⟩
def xk_135 : Cond := .code ⟨"ExpressHouse$FileReader", "checkEntry", "(II)V"⟩ prog_3_method_16_code 4 none
def xy_136 : MethodName := ⟨"ExpressHouse$FileReader", "addEntry", "(I)V"⟩
def xk_136 : Cond := .code ⟨"ExpressHouse$FileReader", "addEntry", "(I)V"⟩ prog_3_method_15_code 2 none
def xy_137 : MethodName := ⟨"ExpressHouse$FileReader", "sign", "(I)V"⟩
def xk_137 : Cond := .code ⟨"ExpressHouse$FileReader", "sign", "(I)V"⟩ prog_3_method_12_code 2 none
def xy_138 : MethodName := ⟨"ExpressHouse$FileReader", "peek", "()I"⟩
def xk_138 : Cond := .code ⟨"ExpressHouse$FileReader", "peek", "()I"⟩ prog_3_method_8_code 1 (some .int)
def xy_139 : MethodName := ⟨"ExpressHouse$FileReader", "form", "(Z)V"⟩
def xk_139 : Cond := .code ⟨"ExpressHouse$FileReader", "form", "(Z)V"⟩ prog_3_method_19_code 10 none
def xy_140 : MethodName := ⟨"ExpressHouse$Population", "addAll", "(I)V"⟩
def xk_140 : Cond := .code ⟨"ExpressHouse$Population", "addAll", "(I)V"⟩ prog_8_method_13_code 2 none
def xy_141 : MethodName := ⟨"ExpressHouse$Tokens", "isLetter", "(I)Z"⟩
def xk_141 : Cond := .code ⟨"ExpressHouse$Tokens", "isLetter", "(I)Z"⟩ prog_12_method_4_code 1 (some .boolean)
def xy_142 : MethodName := ⟨"ExpressHouse$Tokens", "scanName", "([BII)I"⟩
def xk_142 : Cond := .code ⟨"ExpressHouse$Tokens", "scanName", "([BII)I"⟩ prog_12_method_12_code 8 (some .int)
def xy_143 : MethodName := ⟨"ExpressHouse$Tokens", "isDigit", "(I)Z"⟩
def xk_143 : Cond := .code ⟨"ExpressHouse$Tokens", "isDigit", "(I)Z"⟩ prog_12_method_5_code 1 (some .boolean)
def xy_144 : MethodName := ⟨"ExpressHouse$Tokens", "scanNumber", "([BII)I"⟩
def xk_144 : Cond := .code ⟨"ExpressHouse$Tokens", "scanNumber", "([BII)I"⟩ prog_12_method_14_code 12 (some .int)
def xy_145 : MethodName := ⟨"ExpressHouse$Tokens", "longSign", "(III)I"⟩
def xk_145 : Cond := .code ⟨"ExpressHouse$Tokens", "longSign", "(III)I"⟩ prog_12_method_15_code 3 (some .int)
def xy_146 : MethodName := ⟨"ExpressHouse$Tokens", "shortSign", "(I)I"⟩
def xk_146 : Cond := .code ⟨"ExpressHouse$Tokens", "shortSign", "(I)I"⟩ prog_12_method_16_code 1 (some .int)
def xy_147 : MethodName := ⟨"ExpressHouse$Tokens", "advance", "()V"⟩
def xk_147 : Cond := .code ⟨"ExpressHouse$Tokens", "advance", "()V"⟩ prog_12_method_19_code 1 none
def xy_148 : MethodName := ⟨"java/util/Arrays", "fill", "([JJ)V"⟩
def xk_148 : Cond := .code ⟨"java/util/Arrays", "fill", "([JJ)V"⟩ prog_46_method_101_code 5 none
def xy_149 : MethodName := ⟨"ExpressHouse$Schema", "clearTable", "([[I)V"⟩
def xk_149 : Cond := .code ⟨"ExpressHouse$Schema", "clearTable", "([[I)V"⟩ prog_10_method_4_code 2 none
def xy_150 : MethodName := ⟨"ExpressHouse$Expressions", "enter", "(IZ)V"⟩
def xk_150 : Cond := .code ⟨"ExpressHouse$Expressions", "enter", "(IZ)V"⟩ prog_2_method_3_code 3 none
def xy_151 : MethodName := ⟨"ExpressHouse$SchemaReader", "declare", "(I)I"⟩
def xk_151 : Cond := .code ⟨"ExpressHouse$SchemaReader", "declare", "(I)I"⟩ prog_11_method_6_code 4 (some .int)
def xy_152 : MethodName := ⟨"ExpressHouse$Schema", "isCircular", "(I)Z"⟩
def xk_152 : Cond := .code ⟨"ExpressHouse$Schema", "isCircular", "(I)Z"⟩ prog_10_method_17_code 4 (some .boolean)
def xy_153 : MethodName := ⟨"ExpressHouse$Tokens", "soft", "(II)V"⟩
def xk_153 : Cond := .code ⟨"ExpressHouse$Tokens", "soft", "(II)V"⟩ prog_12_method_23_code 4 none
def xy_154 : MethodName := ⟨"ExpressHouse$Tokens", "is", "(I)Z"⟩
def xk_154 : Cond := .code ⟨"ExpressHouse$Tokens", "is", "(I)Z"⟩ prog_12_method_18_code 2 (some .boolean)
def xy_155 : MethodName := ⟨"ExpressHouse$SchemaReader", "enumeration", "(I)V"⟩
def xk_155 : Cond := .code ⟨"ExpressHouse$SchemaReader", "enumeration", "(I)V"⟩ prog_11_method_9_code 3 none
def xy_156 : MethodName := ⟨"ExpressHouse$SchemaReader", "selection", "(I)V"⟩
def xk_156 : Cond := .code ⟨"ExpressHouse$SchemaReader", "selection", "(I)V"⟩ prog_11_method_10_code 3 none
def xy_157 : MethodName := ⟨"ExpressHouse$SchemaReader", "plainType", "(I)V"⟩
def xk_157 : Cond := .code ⟨"ExpressHouse$SchemaReader", "plainType", "(I)V"⟩ prog_11_method_11_code 3 none
def xy_158 : MethodName := ⟨"ExpressHouse$SchemaReader", "where", "(I)V"⟩
def xk_158 : Cond := .code ⟨"ExpressHouse$SchemaReader", "where", "(I)V"⟩ prog_11_method_17_code 4 none
def xy_159 : MethodName := ⟨"ExpressHouse$SchemaReader", "under", "(I)V"⟩
def xk_159 : Cond := .code ⟨"ExpressHouse$SchemaReader", "under", "(I)V"⟩ prog_11_method_20_code 5 none
def xy_160 : MethodName := ⟨"ExpressHouse$SchemaReader", "over", "(I)V"⟩
def xk_160 : Cond := .code ⟨"ExpressHouse$SchemaReader", "over", "(I)V"⟩ prog_11_method_21_code 3 none
def xy_161 : MethodName := ⟨"ExpressHouse$Expressions", "emit", "(II)V"⟩
def xk_161 : Cond := .code ⟨"ExpressHouse$Expressions", "emit", "(II)V"⟩ prog_2_method_6_code 3 none
def xy_162 : MethodName := ⟨"ExpressHouse$SchemaReader", "attributes", "(I)V"⟩
def xk_162 : Cond := .code ⟨"ExpressHouse$SchemaReader", "attributes", "(I)V"⟩ prog_11_method_25_code 4 none
def xy_163 : MethodName := ⟨"ExpressHouse$SchemaReader", "uniques", "(I)V"⟩
def xk_163 : Cond := .code ⟨"ExpressHouse$SchemaReader", "uniques", "(I)V"⟩ prog_11_method_31_code 4 none
def xy_164 : MethodName := ⟨"ExpressHouse$SchemaReader", "local", "([II)V"⟩
def xk_164 : Cond := .code ⟨"ExpressHouse$SchemaReader", "local", "([II)V"⟩ prog_11_method_35_code 5 none
def xy_165 : MethodName := ⟨"ExpressHouse$SchemaReader", "kind", "()I"⟩
def xk_165 : Cond := .code ⟨"ExpressHouse$SchemaReader", "kind", "()I"⟩ prog_11_method_14_code 4 (some .int)
def xy_166 : MethodName := ⟨"ExpressHouse$SchemaReader", "statements", "([II)V"⟩
def xk_166 : Cond := .code ⟨"ExpressHouse$SchemaReader", "statements", "([II)V"⟩ prog_11_method_36_code 4 none
def xy_167 : MethodName := ⟨"ExpressHouse$Expressions", "emit", "(I)V"⟩
def xk_167 : Cond := .code ⟨"ExpressHouse$Expressions", "emit", "(I)V"⟩ prog_2_method_5_code 2 none
def xy_168 : MethodName := ⟨"ExpressHouse$Tokens", "refuse", "()V"⟩
def xk_168 : Cond := .code ⟨"ExpressHouse$Tokens", "refuse", "()V"⟩ prog_12_method_21_code 1 none
def xy_169 : MethodName := ⟨"ExpressHouse$Schema", "unionOf", "([[III)I"⟩
def xk_169 : Cond := .code ⟨"ExpressHouse$Schema", "unionOf", "([[III)I"⟩ prog_10_method_15_code 5 (some .int)
def xy_170 : MethodName := ⟨"ExpressHouse$Schema", "acceptedThrough", "(I)I"⟩
def xk_170 : Cond := .code ⟨"ExpressHouse$Schema", "acceptedThrough", "(I)I"⟩ prog_10_method_16_code 4 (some .int)
def xy_171 : MethodName := ⟨"ExpressHouse$Schema", "endOf", "(I)I"⟩
def xk_171 : Cond := .code ⟨"ExpressHouse$Schema", "endOf", "(I)I"⟩ prog_10_method_13_code 4 (some .int)
def xy_172 : MethodName := ⟨"ExpressHouse$Schema", "accepts", "(I)I"⟩
def xk_172 : Cond := .code ⟨"ExpressHouse$Schema", "accepts", "(I)I"⟩ prog_10_method_20_code 2 (some .int)
def xy_173 : MethodName := ⟨"ExpressHouse$Schema", "isReal", "(I)Z"⟩
def xk_173 : Cond := .code ⟨"ExpressHouse$Schema", "isReal", "(I)Z"⟩ prog_10_method_19_code 3 (some .boolean)
def xy_174 : MethodName := ⟨"ExpressHouse$Schema", "kindCell", "(II)I"⟩
def xk_174 : Cond := .code ⟨"ExpressHouse$Schema", "kindCell", "(II)I"⟩ prog_10_method_9_code 3 (some .int)
def xy_175 : MethodName := ⟨"ExpressHouse$Schema", "isRefined", "(II)Z"⟩
def xk_175 : Cond := .code ⟨"ExpressHouse$Schema", "isRefined", "(II)Z"⟩ prog_10_method_33_code 4 (some .boolean)
def xy_176 : MethodName := ⟨"ExpressHouse$Schema", "overAllows", "(II)Z"⟩
def xk_176 : Cond := .code ⟨"ExpressHouse$Schema", "overAllows", "(II)Z"⟩ prog_10_method_34_code 5 (some .boolean)
def xy_177 : MethodName := ⟨"ExpressHouse$Expressions", "exp", "()V"⟩
def xk_177 : Cond := .code ⟨"ExpressHouse$Expressions", "exp", "()V"⟩ prog_2_method_16_code 3 none
def xy_178 : MethodName := ⟨"ExpressHouse$Population", "holdsAlike", "(II)Z"⟩
def xk_178 : Cond := .code ⟨"ExpressHouse$Population", "holdsAlike", "(II)Z"⟩ prog_8_method_24_code 4 (some .boolean)
def xy_179 : MethodName := ⟨"ExpressHouse$Machine", "step", "(I)V"⟩
def xk_179 : Cond := .code ⟨"ExpressHouse$Machine", "step", "(I)V"⟩ prog_6_method_7_code 3 none
def xy_180 : MethodName := ⟨"ExpressHouse$Machine", "push", "(LExpressHouse$Value;)V"⟩
def xk_180 : Cond := .code ⟨"ExpressHouse$Machine", "push", "(LExpressHouse$Value;)V"⟩ prog_6_method_4_code 2 none
def xy_181 : MethodName := ⟨"ExpressHouse$Population", "extent", "(I)LExpressHouse$Value;"⟩
def xk_181 : Cond := .code ⟨"ExpressHouse$Population", "extent", "(I)LExpressHouse$Value;"⟩ prog_8_method_17_code 5 (some (.object "ExpressHouse$Value"))
def xy_182 : MethodName := ⟨"ExpressHouse$Machine", "slotAt", "(I)I"⟩
def xk_182 : Cond := .code ⟨"ExpressHouse$Machine", "slotAt", "(I)I"⟩ prog_6_method_11_code 2 (some .int)
def xy_183 : MethodName := ⟨"ExpressHouse$Machine", "access", "(I)V"⟩
def xk_183 : Cond := .code ⟨"ExpressHouse$Machine", "access", "(I)V"⟩ prog_6_method_14_code 5 none
def xy_184 : MethodName := ⟨"ExpressHouse$Machine", "list", "(I)V"⟩
def xk_184 : Cond := .code ⟨"ExpressHouse$Machine", "list", "(I)V"⟩ prog_6_method_15_code 11 none
def xy_185 : MethodName := ⟨"ExpressHouse$Operators", "negated", "(LExpressHouse$Value;)LExpressHouse$Value;"⟩
def xk_185 : Cond := .code ⟨"ExpressHouse$Operators", "negated", "(LExpressHouse$Value;)LExpressHouse$Value;"⟩ prog_7_method_10_code 2 (some (.object "ExpressHouse$Value"))
def xy_186 : MethodName := ⟨"ExpressHouse$Operators", "inverted", "(LExpressHouse$Value;)LExpressHouse$Value;"⟩
def xk_186 : Cond := .code ⟨"ExpressHouse$Operators", "inverted", "(LExpressHouse$Value;)LExpressHouse$Value;"⟩ prog_7_method_9_code 2 (some (.object "ExpressHouse$Value"))
def xy_187 : MethodName := ⟨"ExpressHouse$Operators", "builtIn", "(ILExpressHouse$Value;LExpressHouse$Value;)LExpressHouse$Value;"⟩
def xk_187 : Cond := .code ⟨"ExpressHouse$Operators", "builtIn", "(ILExpressHouse$Value;LExpressHouse$Value;)LExpressHouse$Value;"⟩ prog_7_method_15_code 4 (some (.object "ExpressHouse$Value"))
def xy_188 : MethodName := ⟨"ExpressHouse$Operators", "placeOf", "(LExpressHouse$Value;LExpressHouse$Value;)LExpressHouse$Value;"⟩
def xk_188 : Cond := .code ⟨"ExpressHouse$Operators", "placeOf", "(LExpressHouse$Value;LExpressHouse$Value;)LExpressHouse$Value;"⟩ prog_7_method_13_code 6 (some (.object "ExpressHouse$Value"))
def xy_189 : MethodName := ⟨"ExpressHouse$Operators", "logic", "(ILExpressHouse$Value;LExpressHouse$Value;)LExpressHouse$Value;"⟩
def xk_189 : Cond := .code ⟨"ExpressHouse$Operators", "logic", "(ILExpressHouse$Value;LExpressHouse$Value;)LExpressHouse$Value;"⟩ prog_7_method_8_code 9 (some (.object "ExpressHouse$Value"))
def xy_190 : MethodName := ⟨"ExpressHouse$Operators", "compared", "(ILExpressHouse$Value;LExpressHouse$Value;)LExpressHouse$Value;"⟩
def xk_190 : Cond := .code ⟨"ExpressHouse$Operators", "compared", "(ILExpressHouse$Value;LExpressHouse$Value;)LExpressHouse$Value;"⟩ prog_7_method_11_code 5 (some (.object "ExpressHouse$Value"))
def xy_191 : MethodName := ⟨"ExpressHouse$Operators", "places", "(ILExpressHouse$Value;LExpressHouse$Value;)LExpressHouse$Value;"⟩
def xk_191 : Cond := .code ⟨"ExpressHouse$Operators", "places", "(ILExpressHouse$Value;LExpressHouse$Value;)LExpressHouse$Value;"⟩ prog_7_method_5_code 8 (some (.object "ExpressHouse$Value"))
def xy_192 : MethodName := ⟨"ExpressHouse$Operators", "numbers", "(ILExpressHouse$Value;LExpressHouse$Value;)LExpressHouse$Value;"⟩
def xk_192 : Cond := .code ⟨"ExpressHouse$Operators", "numbers", "(ILExpressHouse$Value;LExpressHouse$Value;)LExpressHouse$Value;"⟩ prog_7_method_3_code 8 (some (.object "ExpressHouse$Value"))
def xy_193 : MethodName := ⟨"ExpressHouse$Machine", "call", "(I)V"⟩
def xk_193 : Cond := .code ⟨"ExpressHouse$Machine", "call", "(I)V"⟩ prog_6_method_17_code 8 none
def xy_194 : MethodName := ⟨"ExpressHouse$Machine", "startQuery", "(II)V"⟩
def xk_194 : Cond := .code ⟨"ExpressHouse$Machine", "startQuery", "(II)V"⟩ prog_6_method_18_code 4 none
def xy_195 : MethodName := ⟨"ExpressHouse$Machine", "continueQuery", "(II)V"⟩
def xk_195 : Cond := .code ⟨"ExpressHouse$Machine", "continueQuery", "(II)V"⟩ prog_6_method_19_code 8 none
def xy_196 : MethodName := ⟨"ExpressHouse$Value", "isTrue", "()Z"⟩
def xk_196 : Cond := .code ⟨"ExpressHouse$Value", "isTrue", "()Z"⟩ prog_13_method_4_code 1 (some .boolean)
def xy_197 : MethodName := ⟨"ExpressHouse$Machine", "store", "(II)V"⟩
def xk_197 : Cond := .code ⟨"ExpressHouse$Machine", "store", "(II)V"⟩ prog_6_method_20_code 4 none
def xy_198 : MethodName := ⟨"ExpressHouse$Machine", "storeAt", "(II)V"⟩
def xk_198 : Cond := .code ⟨"ExpressHouse$Machine", "storeAt", "(II)V"⟩ prog_6_method_21_code 5 none
def xy_199 : MethodName := ⟨"ExpressHouse$Machine", "closeFrame", "(LExpressHouse$Value;)V"⟩
def xk_199 : Cond := .code ⟨"ExpressHouse$Machine", "closeFrame", "(LExpressHouse$Value;)V"⟩ prog_6_method_9_code 4 none
def xy_200 : MethodName := ⟨"ExpressHouse$Machine", "endFrame", "(LExpressHouse$Value;)V"⟩
def xk_200 : Cond := .code ⟨"ExpressHouse$Machine", "endFrame", "(LExpressHouse$Value;)V"⟩ prog_6_method_10_code 2 none
def xy_201 : MethodName := ⟨"ExpressHouse$Machine", "repeat", "(II)V"⟩
def xk_201 : Cond := .code ⟨"ExpressHouse$Machine", "repeat", "(II)V"⟩ prog_6_method_22_code 6 none
def xy_202 : MethodName := ⟨"ExpressHouse$Reals", "toBits", "(D)J"⟩
def xk_202 : Cond := .code ⟨"ExpressHouse$Reals", "toBits", "(D)J"⟩ prog_9_method_7_code 8 (some .long)
def xy_203 : MethodName := ⟨"ExpressHouse$Reals", "isWhole", "(JJ)Z"⟩
def xk_203 : Cond := .code ⟨"ExpressHouse$Reals", "isWhole", "(JJ)Z"⟩ prog_9_method_8_code 10 (some .boolean)
def xy_204 : MethodName := ⟨"ExpressHouse$Reals", "isNan", "(J)Z"⟩
def xk_204 : Cond := .code ⟨"ExpressHouse$Reals", "isNan", "(J)Z"⟩ prog_9_method_2_code 2 (some .boolean)
def xy_205 : MethodName := ⟨"ExpressHouse$Population", "countUsers", "(II)I"⟩
def xk_205 : Cond := .code ⟨"ExpressHouse$Population", "countUsers", "(II)I"⟩ prog_8_method_20_code 5 (some .int)
def xy_206 : MethodName := ⟨"ExpressHouse$Judge", "isWithin", "(II)Z"⟩
def xk_206 : Cond := .code ⟨"ExpressHouse$Judge", "isWithin", "(II)Z"⟩ prog_5_method_9_code 4 (some .boolean)
def xy_207 : MethodName := ⟨"ExpressHouse$Judge", "isHeldWithin", "(LExpressHouse$Value;[I)Z"⟩
def xk_207 : Cond := .code ⟨"ExpressHouse$Judge", "isHeldWithin", "(LExpressHouse$Value;[I)Z"⟩ prog_5_method_8_code 3 (some .boolean)
def xy_208 : MethodName := ⟨"ExpressHouse$Judge", "areAlike", "(IIJ)Z"⟩
def xk_208 : Cond := .code ⟨"ExpressHouse$Judge", "areAlike", "(IIJ)Z"⟩ prog_5_method_12_code 7 (some .boolean)
def xy_209 : MethodName := ⟨"ExpressHouse$Judge", "rank", "(I)I"⟩
def xk_209 : Cond := .code ⟨"ExpressHouse$Judge", "rank", "(I)I"⟩ prog_5_method_5_code 1 (some .int)
def xy_210 : MethodName := ⟨"ExpressHouse$Schema", "isExplicit", "(I)Z"⟩
def xk_210 : Cond := .code ⟨"ExpressHouse$Schema", "isExplicit", "(I)Z"⟩ prog_10_method_22_code 2 (some .boolean)
def xy_211 : MethodName := ⟨"ExpressHouse$FileWriter", "word", "(J)V"⟩
def xk_211 : Cond := .code ⟨"ExpressHouse$FileWriter", "word", "(J)V"⟩ prog_4_method_7_code 5 none
def xy_212 : MethodName := ⟨"ExpressHouse$FileWriter", "held", "(LExpressHouse$Value;)V"⟩
def xk_212 : Cond := .code ⟨"ExpressHouse$FileWriter", "held", "(LExpressHouse$Value;)V"⟩ prog_4_method_8_code 3 none
def xy_213 : MethodName := ⟨"ExpressHouse$FileReader", "expect", "(I)V"⟩
def xk_213 : Cond := .code ⟨"ExpressHouse$FileReader", "expect", "(I)V"⟩ prog_3_method_11_code 2 none
def xy_214 : MethodName := ⟨"ExpressHouse$FileReader", "fail", "(II)V"⟩
def xk_214 : Cond := .code ⟨"ExpressHouse$FileReader", "fail", "(II)V"⟩ prog_3_method_10_code 3 none
def xy_215 : MethodName := ⟨"ExpressHouse$FileReader", "entryOf", "(I)I"⟩
def xk_215 : Cond := .code ⟨"ExpressHouse$FileReader", "entryOf", "(I)I"⟩ prog_3_method_17_code 3 (some .int)
def xy_216 : MethodName := ⟨"ExpressHouse$FileReader", "word", "()J"⟩
def xk_216 : Cond := .code ⟨"ExpressHouse$FileReader", "word", "()J"⟩ prog_3_method_18_code 4 (some .long)
def xy_217 : MethodName := ⟨"ExpressHouse$Schema", "find", "(IJ)I"⟩
def xk_217 : Cond := .code ⟨"ExpressHouse$Schema", "find", "(IJ)I"⟩ prog_10_method_7_code 6 (some .int)
def xy_218 : MethodName := ⟨"ExpressHouse$Schema", "explicitFrom", "(II)I"⟩
def xk_218 : Cond := .code ⟨"ExpressHouse$Schema", "explicitFrom", "(II)I"⟩ prog_10_method_23_code 4 (some .int)
def xy_219 : MethodName := ⟨"ExpressHouse$FileReader", "valuePart", "(I)V"⟩
def xk_219 : Cond := .code ⟨"ExpressHouse$FileReader", "valuePart", "(I)V"⟩ prog_3_method_20_code 8 none
def xy_220 : MethodName := ⟨"ExpressHouse$Tokens", "kindOfWord", "(J)I"⟩
def xk_220 : Cond := .code ⟨"ExpressHouse$Tokens", "kindOfWord", "(J)I"⟩ prog_12_method_13_code 4 (some .int)
def xy_221 : MethodName := ⟨"ExpressHouse$Reals", "ofDecimal", "(JJ)J"⟩
def xk_221 : Cond := .code ⟨"ExpressHouse$Reals", "ofDecimal", "(JJ)J"⟩ prog_9_method_9_code 4 (some .long)
def xy_222 : MethodName := ⟨"ExpressHouse$Schema", "most", "(I)I"⟩
def xk_222 : Cond := .code ⟨"ExpressHouse$Schema", "most", "(I)I"⟩ prog_10_method_2_code 1 (some .int)
def xy_223 : MethodName := ⟨"ExpressHouse$Schema", "isTaken", "(IJ)Z"⟩
def xk_223 : Cond := .code ⟨"ExpressHouse$Schema", "isTaken", "(IJ)Z"⟩ prog_10_method_6_code 5 (some .boolean)
def xy_224 : MethodName := ⟨"ExpressHouse$Tokens", "fail", "(I)V"⟩
def xk_224 : Cond := .code ⟨"ExpressHouse$Tokens", "fail", "(I)V"⟩ prog_12_method_22_code 2 none
def xy_225 : MethodName := ⟨"ExpressHouse$Schema", "addName", "(IJ)V"⟩
def xk_225 : Cond := .code ⟨"ExpressHouse$Schema", "addName", "(IJ)V"⟩ prog_10_method_5_code 4 none
def xy_226 : MethodName := ⟨"ExpressHouse$SchemaReader", "namedItem", "(Z)I"⟩
def xk_226 : Cond := .code ⟨"ExpressHouse$SchemaReader", "namedItem", "(Z)I"⟩ prog_11_method_13_code 6 (some .int)
def xy_227 : MethodName := ⟨"ExpressHouse$SchemaReader", "see", "(IIZ)V"⟩
def xk_227 : Cond := .code ⟨"ExpressHouse$SchemaReader", "see", "(IIZ)V"⟩ prog_11_method_12_code 4 none
def xy_228 : MethodName := ⟨"ExpressHouse$Expressions", "startsExp", "(I)Z"⟩
def xk_228 : Cond := .code ⟨"ExpressHouse$Expressions", "startsExp", "(I)Z"⟩ prog_2_method_9_code 1 (some .boolean)
def xy_229 : MethodName := ⟨"ExpressHouse$SchemaReader", "misnamed", "()V"⟩
def xk_229 : Cond := .code ⟨"ExpressHouse$SchemaReader", "misnamed", "()V"⟩ prog_11_method_7_code 1 none
def xy_230 : MethodName := ⟨"ExpressHouse$SchemaReader", "bothOver", "(I)V"⟩
def xk_230 : Cond := .code ⟨"ExpressHouse$SchemaReader", "bothOver", "(I)V"⟩ prog_11_method_22_code 3 none
def xy_231 : MethodName := ⟨"ExpressHouse$SchemaReader", "explicit", "(I)V"⟩
def xk_231 : Cond := .code ⟨"ExpressHouse$SchemaReader", "explicit", "(I)V"⟩ prog_11_method_27_code 3 none
def xy_232 : MethodName := ⟨"ExpressHouse$SchemaReader", "derived", "(I)V"⟩
def xk_232 : Cond := .code ⟨"ExpressHouse$SchemaReader", "derived", "(I)V"⟩ prog_11_method_28_code 3 none
def xy_233 : MethodName := ⟨"ExpressHouse$SchemaReader", "inverse", "(I)V"⟩
def xk_233 : Cond := .code ⟨"ExpressHouse$SchemaReader", "inverse", "(I)V"⟩ prog_11_method_29_code 6 none
def xy_234 : MethodName := ⟨"ExpressHouse$SchemaReader", "uniqueList", "(I)J"⟩
def xk_234 : Cond := .code ⟨"ExpressHouse$SchemaReader", "uniqueList", "(I)J"⟩ prog_11_method_32_code 5 (some .long)
def xy_235 : MethodName := ⟨"ExpressHouse$Expressions", "findLocal", "(J)I"⟩
def xk_235 : Cond := .code ⟨"ExpressHouse$Expressions", "findLocal", "(J)I"⟩ prog_2_method_13_code 4 (some .int)
def xy_236 : MethodName := ⟨"ExpressHouse$Expressions", "addLocal", "(J)V"⟩
def xk_236 : Cond := .code ⟨"ExpressHouse$Expressions", "addLocal", "(J)V"⟩ prog_2_method_12_code 3 none
def xy_237 : MethodName := ⟨"ExpressHouse$SchemaReader", "newKind", "(I)I"⟩
def xk_237 : Cond := .code ⟨"ExpressHouse$SchemaReader", "newKind", "(I)I"⟩ prog_11_method_15_code 3 (some .int)
def xy_238 : MethodName := ⟨"ExpressHouse$SchemaReader", "bounds", "(I)V"⟩
def xk_238 : Cond := .code ⟨"ExpressHouse$SchemaReader", "bounds", "(I)V"⟩ prog_11_method_16_code 3 none
def xy_239 : MethodName := ⟨"ExpressHouse$SchemaReader", "startsStatement", "(I)Z"⟩
def xk_239 : Cond := .code ⟨"ExpressHouse$SchemaReader", "startsStatement", "(I)Z"⟩ prog_11_method_37_code 1 (some .boolean)
def xy_240 : MethodName := ⟨"ExpressHouse$SchemaReader", "statement", "([II)V"⟩
def xk_240 : Cond := .code ⟨"ExpressHouse$SchemaReader", "statement", "([II)V"⟩ prog_11_method_38_code 3 none
def xy_241 : MethodName := ⟨"ExpressHouse$Schema", "goesOn", "(I)Z"⟩
def xk_241 : Cond := .code ⟨"ExpressHouse$Schema", "goesOn", "(I)Z"⟩ prog_10_method_14_code 2 (some .boolean)
def xy_242 : MethodName := ⟨"ExpressHouse$Schema", "isType", "(I)Z"⟩
def xk_242 : Cond := .code ⟨"ExpressHouse$Schema", "isType", "(I)Z"⟩ prog_10_method_10_code 2 (some .boolean)
def xy_243 : MethodName := ⟨"ExpressHouse$Schema", "isKindType", "(I)Z"⟩
def xk_243 : Cond := .code ⟨"ExpressHouse$Schema", "isKindType", "(I)Z"⟩ prog_10_method_11_code 2 (some .boolean)
def xy_244 : MethodName := ⟨"ExpressHouse$Schema", "joinOver", "(III)I"⟩
def xk_244 : Cond := .code ⟨"ExpressHouse$Schema", "joinOver", "(III)I"⟩ prog_10_method_35_code 8 (some .int)
def xy_245 : MethodName := ⟨"ExpressHouse$Expressions", "sum", "()V"⟩
def xk_245 : Cond := .code ⟨"ExpressHouse$Expressions", "sum", "()V"⟩ prog_2_method_17_code 4 none
def xy_246 : MethodName := ⟨"ExpressHouse$Expressions", "operator", "(I)V"⟩
def xk_246 : Cond := .code ⟨"ExpressHouse$Expressions", "operator", "(I)V"⟩ prog_2_method_15_code 2 none
def xy_247 : MethodName := ⟨"ExpressHouse$Population", "alike", "(LExpressHouse$Value;LExpressHouse$Value;)Z"⟩
def xk_247 : Cond := .code ⟨"ExpressHouse$Population", "alike", "(LExpressHouse$Value;LExpressHouse$Value;)Z"⟩ prog_8_method_25_code 9 (some .boolean)
def xy_248 : MethodName := ⟨"ExpressHouse$Population", "instances", "(I[JI)LExpressHouse$Value;"⟩
def xk_248 : Cond := .code ⟨"ExpressHouse$Population", "instances", "(I[JI)LExpressHouse$Value;"⟩ prog_8_method_18_code 4 (some (.object "ExpressHouse$Value"))
def xy_249 : MethodName := ⟨"ExpressHouse$Population", "users", "(II)LExpressHouse$Value;"⟩
def xk_249 : Cond := .code ⟨"ExpressHouse$Population", "users", "(II)LExpressHouse$Value;"⟩ prog_8_method_19_code 6 (some (.object "ExpressHouse$Value"))
def xy_250 : MethodName := ⟨"ExpressHouse$Machine", "below", "(I)LExpressHouse$Value;"⟩
def xk_250 : Cond := .code ⟨"ExpressHouse$Machine", "below", "(I)LExpressHouse$Value;"⟩ prog_6_method_6_code 3 (some (.object "ExpressHouse$Value"))
def xy_251 : MethodName := ⟨"ExpressHouse$Operators", "integer", "(J)LExpressHouse$Value;"⟩
def xk_251 : Cond := .code ⟨"ExpressHouse$Operators", "integer", "(J)LExpressHouse$Value;"⟩ prog_7_method_2_code 3 (some (.object "ExpressHouse$Value"))
def xy_252 : MethodName := ⟨"ExpressHouse$Reals", "negative", "(J)J"⟩
def xk_252 : Cond := .code ⟨"ExpressHouse$Reals", "negative", "(J)J"⟩ prog_9_method_11_code 2 (some .long)
def xy_253 : MethodName := ⟨"ExpressHouse$Reals", "size", "(J)J"⟩
def xk_253 : Cond := .code ⟨"ExpressHouse$Reals", "size", "(J)J"⟩ prog_9_method_15_code 2 (some .long)
def xy_254 : MethodName := ⟨"ExpressHouse$Operators", "realOf", "(LExpressHouse$Value;J)LExpressHouse$Value;"⟩
def xk_254 : Cond := .code ⟨"ExpressHouse$Operators", "realOf", "(LExpressHouse$Value;J)LExpressHouse$Value;"⟩ prog_7_method_16_code 4 (some (.object "ExpressHouse$Value"))
def xy_255 : MethodName := ⟨"ExpressHouse$Operators", "rounded", "(LExpressHouse$Value;I)LExpressHouse$Value;"⟩
def xk_255 : Cond := .code ⟨"ExpressHouse$Operators", "rounded", "(LExpressHouse$Value;I)LExpressHouse$Value;"⟩ prog_7_method_17_code 3 (some (.object "ExpressHouse$Value"))
def xy_256 : MethodName := ⟨"ExpressHouse$Reals", "signOf", "(J)J"⟩
def xk_256 : Cond := .code ⟨"ExpressHouse$Reals", "signOf", "(J)J"⟩ prog_9_method_17_code 2 (some .long)
def xy_257 : MethodName := ⟨"ExpressHouse$Operators", "measure", "(LExpressHouse$Value;I)LExpressHouse$Value;"⟩
def xk_257 : Cond := .code ⟨"ExpressHouse$Operators", "measure", "(LExpressHouse$Value;I)LExpressHouse$Value;"⟩ prog_7_method_18_code 3 (some (.object "ExpressHouse$Value"))
def xy_258 : MethodName := ⟨"ExpressHouse$Operators", "truth", "(Z)LExpressHouse$Value;"⟩
def xk_258 : Cond := .code ⟨"ExpressHouse$Operators", "truth", "(Z)LExpressHouse$Value;"⟩ prog_7_method_7_code 1 (some (.object "ExpressHouse$Value"))
def xy_259 : MethodName := ⟨"ExpressHouse$Population", "allUsers", "(I)LExpressHouse$Value;"⟩
def xk_259 : Cond := .code ⟨"ExpressHouse$Population", "allUsers", "(I)LExpressHouse$Value;"⟩ prog_8_method_21_code 6 (some (.object "ExpressHouse$Value"))
def xy_260 : MethodName := ⟨"ExpressHouse$Operators", "ofNumbers", "(ILExpressHouse$Value;LExpressHouse$Value;)LExpressHouse$Value;"⟩
def xk_260 : Cond := .code ⟨"ExpressHouse$Operators", "ofNumbers", "(ILExpressHouse$Value;LExpressHouse$Value;)LExpressHouse$Value;"⟩ prog_7_method_19_code 9 (some (.object "ExpressHouse$Value"))
def xy_261 : MethodName := ⟨"ExpressHouse$Value", "kindAt", "(I)I"⟩
def xk_261 : Cond := .code ⟨"ExpressHouse$Value", "kindAt", "(I)I"⟩ prog_13_method_6_code 2 (some .int)
def xy_262 : MethodName := ⟨"ExpressHouse$Value", "bitsAt", "(I)J"⟩
def xk_262 : Cond := .code ⟨"ExpressHouse$Value", "bitsAt", "(I)J"⟩ prog_13_method_8_code 2 (some .long)
def xy_263 : MethodName := ⟨"ExpressHouse$Operators", "isIn", "(IJLExpressHouse$Value;)Z"⟩
def xk_263 : Cond := .code ⟨"ExpressHouse$Operators", "isIn", "(IJLExpressHouse$Value;)Z"⟩ prog_7_method_6_code 7 (some .boolean)
def xy_264 : MethodName := ⟨"ExpressHouse$Value", "isNumber", "()Z"⟩
def xk_264 : Cond := .code ⟨"ExpressHouse$Value", "isNumber", "()Z"⟩ prog_13_method_3_code 1 (some .boolean)
def xy_265 : MethodName := ⟨"ExpressHouse$Operators", "ordered", "(ILExpressHouse$Value;LExpressHouse$Value;)LExpressHouse$Value;"⟩
def xk_265 : Cond := .code ⟨"ExpressHouse$Operators", "ordered", "(ILExpressHouse$Value;LExpressHouse$Value;)LExpressHouse$Value;"⟩ prog_7_method_12_code 10 (some (.object "ExpressHouse$Value"))
def xy_266 : MethodName := ⟨"ExpressHouse$Operators", "wholes", "(IJJ)LExpressHouse$Value;"⟩
def xk_266 : Cond := .code ⟨"ExpressHouse$Operators", "wholes", "(IJJ)LExpressHouse$Value;"⟩ prog_7_method_4_code 8 (some (.object "ExpressHouse$Value"))
def xy_267 : MethodName := ⟨"ExpressHouse$Reals", "of", "(LExpressHouse$Value;)J"⟩
def xk_267 : Cond := .code ⟨"ExpressHouse$Reals", "of", "(LExpressHouse$Value;)J"⟩ prog_9_method_10_code 1 (some .long)
def xy_268 : MethodName := ⟨"ExpressHouse$Reals", "plus", "(JJ)J"⟩
def xk_268 : Cond := .code ⟨"ExpressHouse$Reals", "plus", "(JJ)J"⟩ prog_9_method_12_code 6 (some .long)
def xy_269 : MethodName := ⟨"ExpressHouse$Reals", "times", "(JJ)J"⟩
def xk_269 : Cond := .code ⟨"ExpressHouse$Reals", "times", "(JJ)J"⟩ prog_9_method_13_code 4 (some .long)
def xy_270 : MethodName := ⟨"ExpressHouse$Reals", "over", "(JJ)J"⟩
def xk_270 : Cond := .code ⟨"ExpressHouse$Reals", "over", "(JJ)J"⟩ prog_9_method_14_code 6 (some .long)
def xy_271 : MethodName := ⟨"ExpressHouse$Value", "filledFrom", "(I)I"⟩
def xk_271 : Cond := .code ⟨"ExpressHouse$Value", "filledFrom", "(I)I"⟩ prog_13_method_7_code 3 (some .int)
def xy_272 : MethodName := ⟨"ExpressHouse$Operators", "withPlace", "(LExpressHouse$Value;LExpressHouse$Value;LExpressHouse$Value;I)LExpressHouse$Value;"⟩
def xk_272 : Cond := .code ⟨"ExpressHouse$Operators", "withPlace", "(LExpressHouse$Value;LExpressHouse$Value;LExpressHouse$Value;I)LExpressHouse$Value;"⟩ prog_7_method_14_code 11 (some (.object "ExpressHouse$Value"))
def xy_273 : MethodName := ⟨"ExpressHouse$Machine", "startRepeat", "(I)V"⟩
def xk_273 : Cond := .code ⟨"ExpressHouse$Machine", "startRepeat", "(I)V"⟩ prog_6_method_23_code 6 none
def xy_274 : MethodName := ⟨"ExpressHouse$Tokens", "lengthOf", "(J)I"⟩
def xk_274 : Cond := .code ⟨"ExpressHouse$Tokens", "lengthOf", "(J)I"⟩ prog_12_method_7_code 5 (some .int)
def xy_275 : MethodName := ⟨"ExpressHouse$Tokens", "byteOf", "(JI)I"⟩
def xk_275 : Cond := .code ⟨"ExpressHouse$Tokens", "byteOf", "(JI)I"⟩ prog_12_method_8_code 6 (some .int)
def xy_276 : MethodName := ⟨"ExpressHouse$FileWriter", "scalar", "(IJ)V"⟩
def xk_276 : Cond := .code ⟨"ExpressHouse$FileWriter", "scalar", "(IJ)V"⟩ prog_4_method_9_code 5 none
def xy_277 : MethodName := ⟨"ExpressHouse$FileReader", "scalar", "()V"⟩
def xk_277 : Cond := .code ⟨"ExpressHouse$FileReader", "scalar", "()V"⟩ prog_3_method_24_code 4 none
def xy_278 : MethodName := ⟨"ExpressHouse$FileReader", "holdOrFail", "(IILExpressHouse$Value;I)V"⟩
def xk_278 : Cond := .code ⟨"ExpressHouse$FileReader", "holdOrFail", "(IILExpressHouse$Value;I)V"⟩ prog_3_method_23_code 5 none
def xy_279 : MethodName := ⟨"ExpressHouse$FileReader", "holdAggregate", "(IIII[J)V"⟩
def xk_279 : Cond := .code ⟨"ExpressHouse$FileReader", "holdAggregate", "(IIII[J)V"⟩ prog_3_method_21_code 9 none
def xy_280 : MethodName := ⟨"ExpressHouse$Schema", "findBuiltIn", "(J)I"⟩
def xk_280 : Cond := .code ⟨"ExpressHouse$Schema", "findBuiltIn", "(J)I"⟩ prog_10_method_8_code 4 (some .int)
def xy_281 : MethodName := ⟨"ExpressHouse$Schema", "isAggregate", "(I)Z"⟩
def xk_281 : Cond := .code ⟨"ExpressHouse$Schema", "isAggregate", "(I)Z"⟩ prog_10_method_18_code 2 (some .boolean)
def xy_282 : MethodName := ⟨"ExpressHouse$SchemaReader", "oneOver", "(I)V"⟩
def xk_282 : Cond := .code ⟨"ExpressHouse$SchemaReader", "oneOver", "(I)V"⟩ prog_11_method_23_code 4 none
def xy_283 : MethodName := ⟨"ExpressHouse$SchemaReader", "attributeOf", "(III)[I"⟩
def xk_283 : Cond := .code ⟨"ExpressHouse$SchemaReader", "attributeOf", "(III)[I"⟩ prog_11_method_26_code 5 (some (.array (.int)))
def xy_284 : MethodName := ⟨"ExpressHouse$SchemaReader", "misnamedAtLast", "()V"⟩
def xk_284 : Cond := .code ⟨"ExpressHouse$SchemaReader", "misnamedAtLast", "()V"⟩ prog_11_method_30_code 1 none
def xy_285 : MethodName := ⟨"ExpressHouse$SchemaReader", "uniqueName", "(I)J"⟩
def xk_285 : Cond := .code ⟨"ExpressHouse$SchemaReader", "uniqueName", "(I)J"⟩ prog_11_method_33_code 4 (some .long)
def xy_286 : MethodName := ⟨"ExpressHouse$SchemaReader", "assignment", "([I)V"⟩
def xk_286 : Cond := .code ⟨"ExpressHouse$SchemaReader", "assignment", "([I)V"⟩ prog_11_method_40_code 6 none
def xy_287 : MethodName := ⟨"ExpressHouse$SchemaReader", "choice", "([II)V"⟩
def xk_287 : Cond := .code ⟨"ExpressHouse$SchemaReader", "choice", "([II)V"⟩ prog_11_method_41_code 5 none
def xy_288 : MethodName := ⟨"ExpressHouse$SchemaReader", "repetition", "([II)V"⟩
def xk_288 : Cond := .code ⟨"ExpressHouse$SchemaReader", "repetition", "([II)V"⟩ prog_11_method_43_code 9 none
def xy_289 : MethodName := ⟨"ExpressHouse$SchemaReader", "whileLoop", "([II)V"⟩
def xk_289 : Cond := .code ⟨"ExpressHouse$SchemaReader", "whileLoop", "([II)V"⟩ prog_11_method_45_code 6 none
def xy_290 : MethodName := ⟨"ExpressHouse$SchemaReader", "leap", "(I)V"⟩
def xk_290 : Cond := .code ⟨"ExpressHouse$SchemaReader", "leap", "(I)V"⟩ prog_11_method_39_code 2 none
def xy_291 : MethodName := ⟨"ExpressHouse$Expressions", "term", "()V"⟩
def xk_291 : Cond := .code ⟨"ExpressHouse$Expressions", "term", "()V"⟩ prog_2_method_19_code 4 none
def xy_292 : MethodName := ⟨"ExpressHouse$Expressions", "isSumSign", "(I)Z"⟩
def xk_292 : Cond := .code ⟨"ExpressHouse$Expressions", "isSumSign", "(I)Z"⟩ prog_2_method_18_code 1 (some .boolean)
def xy_293 : MethodName := ⟨"ExpressHouse$Expressions", "emitOperator", "(I)V"⟩
def xk_293 : Cond := .code ⟨"ExpressHouse$Expressions", "emitOperator", "(I)V"⟩ prog_2_method_21_code 3 none
def xy_294 : MethodName := ⟨"ExpressHouse$Tokens", "node", "()Z"⟩
def xk_294 : Cond := .code ⟨"ExpressHouse$Tokens", "node", "()Z"⟩ prog_12_method_25_code 1 (some .boolean)
def xy_295 : MethodName := ⟨"ExpressHouse$Expressions", "stepMore", "(I)V"⟩
def xk_295 : Cond := .code ⟨"ExpressHouse$Expressions", "stepMore", "(I)V"⟩ prog_2_method_8_code 2 none
def xy_296 : MethodName := ⟨"ExpressHouse$Reals", "rounded", "(JI)J"⟩
def xk_296 : Cond := .code ⟨"ExpressHouse$Reals", "rounded", "(JI)J"⟩ prog_9_method_19_code 9 (some .long)
def xy_297 : MethodName := ⟨"ExpressHouse$Reals", "isZero", "(J)Z"⟩
def xk_297 : Cond := .code ⟨"ExpressHouse$Reals", "isZero", "(J)Z"⟩ prog_9_method_4_code 2 (some .boolean)
def xy_298 : MethodName := ⟨"ExpressHouse$Reals", "signed", "(JJ)J"⟩
def xk_298 : Cond := .code ⟨"ExpressHouse$Reals", "signed", "(JJ)J"⟩ prog_9_method_16_code 4 (some .long)
def xy_299 : MethodName := ⟨"ExpressHouse$Reals", "extreme", "(JJI)J"⟩
def xk_299 : Cond := .code ⟨"ExpressHouse$Reals", "extreme", "(JJI)J"⟩ prog_9_method_18_code 6 (some .long)
def xy_300 : MethodName := ⟨"ExpressHouse$Reals", "toDouble", "(J)D"⟩
def xk_300 : Cond := .code ⟨"ExpressHouse$Reals", "toDouble", "(J)D"⟩ prog_9_method_6_code 9 (some .double)
def xy_301 : MethodName := ⟨"ExpressHouse$Schema", "typeOfItem", "(I)I"⟩
def xk_301 : Cond := .code ⟨"ExpressHouse$Schema", "typeOfItem", "(I)I"⟩ prog_10_method_21_code 2 (some .int)
def xy_302 : MethodName := ⟨"ExpressHouse$Reals", "isInfinite", "(J)Z"⟩
def xk_302 : Cond := .code ⟨"ExpressHouse$Reals", "isInfinite", "(J)Z"⟩ prog_9_method_3_code 2 (some .boolean)
def xy_303 : MethodName := ⟨"ExpressHouse$FileWriter", "real", "(J)V"⟩
def xk_303 : Cond := .code ⟨"ExpressHouse$FileWriter", "real", "(J)V"⟩ prog_4_method_11_code 11 none
def xy_304 : MethodName := ⟨"ExpressHouse$FileReader", "hexadecimal", "()V"⟩
def xk_304 : Cond := .code ⟨"ExpressHouse$FileReader", "hexadecimal", "()V"⟩ prog_3_method_25_code 3 none
def xy_305 : MethodName := ⟨"ExpressHouse$FileReader", "itemOrLogical", "()V"⟩
def xk_305 : Cond := .code ⟨"ExpressHouse$FileReader", "itemOrLogical", "()V"⟩ prog_3_method_26_code 5 none
def xy_306 : MethodName := ⟨"ExpressHouse$FileReader", "number", "()V"⟩
def xk_306 : Cond := .code ⟨"ExpressHouse$FileReader", "number", "()V"⟩ prog_3_method_27_code 12 none
def xy_307 : MethodName := ⟨"ExpressHouse$FileReader", "isRepeating", "(I[J)Z"⟩
def xk_307 : Cond := .code ⟨"ExpressHouse$FileReader", "isRepeating", "(I[J)Z"⟩ prog_3_method_22_code 7 (some .boolean)
def xy_308 : MethodName := ⟨"ExpressHouse$SchemaReader", "nameOver", "(I)V"⟩
def xk_308 : Cond := .code ⟨"ExpressHouse$SchemaReader", "nameOver", "(I)V"⟩ prog_11_method_24_code 4 none
def xy_309 : MethodName := ⟨"ExpressHouse$Tokens", "open", "()V"⟩
def xk_309 : Cond := .code ⟨"ExpressHouse$Tokens", "open", "()V"⟩ prog_12_method_26_code 1 none
def xy_310 : MethodName := ⟨"ExpressHouse$Tokens", "close", "()V"⟩
def xk_310 : Cond := .code ⟨"ExpressHouse$Tokens", "close", "()V"⟩ prog_12_method_27_code 1 none
def xy_311 : MethodName := ⟨"ExpressHouse$Expressions", "isKnownTo", "(II)Z"⟩
def xk_311 : Cond := .code ⟨"ExpressHouse$Expressions", "isKnownTo", "(II)Z"⟩ prog_2_method_29_code 4 (some .boolean)
def xy_312 : MethodName := ⟨"ExpressHouse$Expressions", "findHiding", "(J)I"⟩
def xk_312 : Cond := .code ⟨"ExpressHouse$Expressions", "findHiding", "(J)I"⟩ prog_2_method_14_code 4 (some .int)
def xy_313 : MethodName := ⟨"ExpressHouse$Expressions", "patch", "(II)V"⟩
def xk_313 : Cond := .code ⟨"ExpressHouse$Expressions", "patch", "(II)V"⟩ prog_2_method_7_code 3 none
def xy_314 : MethodName := ⟨"ExpressHouse$Expressions", "hide", "(J)I"⟩
def xk_314 : Cond := .code ⟨"ExpressHouse$Expressions", "hide", "(J)I"⟩ prog_2_method_10_code 4 (some .int)
def xy_315 : MethodName := ⟨"ExpressHouse$SchemaReader", "startLoop", "(I)I"⟩
def xk_315 : Cond := .code ⟨"ExpressHouse$SchemaReader", "startLoop", "(I)I"⟩ prog_11_method_42_code 3 (some .int)
def xy_316 : MethodName := ⟨"ExpressHouse$SchemaReader", "endLoop", "(III)V"⟩
def xk_316 : Cond := .code ⟨"ExpressHouse$SchemaReader", "endLoop", "(III)V"⟩ prog_11_method_44_code 4 none
def xy_317 : MethodName := ⟨"ExpressHouse$Expressions", "unhide", "()V"⟩
def xk_317 : Cond := .code ⟨"ExpressHouse$Expressions", "unhide", "()V"⟩ prog_2_method_11_code 1 none
def xy_318 : MethodName := ⟨"ExpressHouse$Expressions", "fact", "()V"⟩
def xk_318 : Cond := .code ⟨"ExpressHouse$Expressions", "fact", "()V"⟩ prog_2_method_22_code 3 none
def xy_319 : MethodName := ⟨"ExpressHouse$Expressions", "isTermSign", "(I)Z"⟩
def xk_319 : Cond := .code ⟨"ExpressHouse$Expressions", "isTermSign", "(I)Z"⟩ prog_2_method_20_code 1 (some .boolean)
def xy_320 : MethodName := ⟨"ExpressHouse$FileWriter", "decimal", "(ZJJ)V"⟩
def xk_320 : Cond := .code ⟨"ExpressHouse$FileWriter", "decimal", "(ZJJ)V"⟩ prog_4_method_12_code 9 none
def xy_321 : MethodName := ⟨"ExpressHouse$Reals", "clean", "(J)J"⟩
def xk_321 : Cond := .code ⟨"ExpressHouse$Reals", "clean", "(J)J"⟩ prog_9_method_5_code 2 (some .long)
def xy_322 : MethodName := ⟨"ExpressHouse$FileReader", "digits", "(JI)J"⟩
def xk_322 : Cond := .code ⟨"ExpressHouse$FileReader", "digits", "(JI)J"⟩ prog_3_method_28_code 8 (some .long)
def xy_323 : MethodName := ⟨"ExpressHouse$Expressions", "part", "(I)V"⟩
def xk_323 : Cond := .code ⟨"ExpressHouse$Expressions", "part", "(I)V"⟩ prog_2_method_23_code 3 none
def xy_324 : MethodName := ⟨"ExpressHouse$Expressions", "base", "(I)V"⟩
def xk_324 : Cond := .code ⟨"ExpressHouse$Expressions", "base", "(I)V"⟩ prog_2_method_25_code 6 none
def xy_325 : MethodName := ⟨"ExpressHouse$Expressions", "member", "()V"⟩
def xk_325 : Cond := .code ⟨"ExpressHouse$Expressions", "member", "()V"⟩ prog_2_method_24_code 2 none
def xy_326 : MethodName := ⟨"ExpressHouse$Expressions", "list", "()V"⟩
def xk_326 : Cond := .code ⟨"ExpressHouse$Expressions", "list", "()V"⟩ prog_2_method_31_code 3 none
def xy_327 : MethodName := ⟨"ExpressHouse$Expressions", "query", "()V"⟩
def xk_327 : Cond := .code ⟨"ExpressHouse$Expressions", "query", "()V"⟩ prog_2_method_33_code 7 none
def xy_328 : MethodName := ⟨"ExpressHouse$Expressions", "named", "(I)V"⟩
def xk_328 : Cond := .code ⟨"ExpressHouse$Expressions", "named", "(I)V"⟩ prog_2_method_26_code 5 none
def xy_329 : MethodName := ⟨"ExpressHouse$Expressions", "constant", "(IJI)V"⟩
def xk_329 : Cond := .code ⟨"ExpressHouse$Expressions", "constant", "(IJI)V"⟩ prog_2_method_27_code 5 none
def xy_330 : MethodName := ⟨"ExpressHouse$Expressions", "some", "()V"⟩
def xk_330 : Cond := .code ⟨"ExpressHouse$Expressions", "some", "()V"⟩ prog_2_method_32_code 1 none
def xy_331 : MethodName := ⟨"ExpressHouse$Expressions", "invocation", "(JI)V"⟩
def xk_331 : Cond := .code ⟨"ExpressHouse$Expressions", "invocation", "(JI)V"⟩ prog_2_method_30_code 7 none
def xy_332 : MethodName := ⟨"ExpressHouse$Expressions", "meaning", "(JI)V"⟩
def xk_332 : Cond := .code ⟨"ExpressHouse$Expressions", "meaning", "(JI)V"⟩ prog_2_method_28_code 8 none
def xy_333 : MethodName := ⟨"ExpressHouse", "allowed", "(I)I"⟩
def xk_333 : Cond := .code ⟨"ExpressHouse", "allowed", "(I)I"⟩ prog_1_method_12_code 2 (some .int)
def xy_334 : MethodName := ⟨"ExpressHouse", "hand", "(I)I"⟩
def xk_334 : Cond := .code ⟨"ExpressHouse", "hand", "(I)I"⟩ prog_1_method_22_code 2 (some .int)
def xy_335 : MethodName := ⟨"ExpressHouse", "bits", "(I)J"⟩
def xk_335 : Cond := .code ⟨"ExpressHouse", "bits", "(I)J"⟩ prog_1_method_23_code 2 (some .long)
def xy_336 : MethodName := ⟨"ExpressHouse", "like", "(I)I"⟩
def xk_336 : Cond := .code ⟨"ExpressHouse", "like", "(I)I"⟩ prog_1_method_26_code 2 (some .int)
def xy_337 : MethodName := ⟨"ExpressHouse", "judged", "(II)I"⟩
def xk_337 : Cond := .code ⟨"ExpressHouse", "judged", "(II)I"⟩ prog_1_method_38_code 3 (some .int)
def xy_338 : MethodName := ⟨"ExpressHouse", "out", "(I)I"⟩
def xk_338 : Cond := .code ⟨"ExpressHouse", "out", "(I)I"⟩ prog_1_method_40_code 2 (some .int)
def xy_339 : MethodName := ⟨"ExpressHouse", "begin", "()I"⟩
def xk_339 : Cond := .code ⟨"ExpressHouse", "begin", "()I"⟩ prog_1_method_43_code 1 (some .int)
def xy_340 : MethodName := ⟨"ExpressHouse$Population", "save", "()Z"⟩
def xk_340 : Cond := .code ⟨"ExpressHouse$Population", "save", "()Z"⟩ prog_8_method_31_code 1 (some .boolean)
noncomputable def xY (M : Nat) : MethodName := (x_if (Nat.ble M 169) (x_if (Nat.ble M 84) (x_if (Nat.ble M 41) (x_if (Nat.ble M 20) (x_if (Nat.ble M 9) (x_if (Nat.ble M 4) (x_if (Nat.ble M 1) (x_if (Nat.ble M 0) xy_0 xy_1) (x_if (Nat.ble M 2) xy_2 (x_if (Nat.ble M 3) xy_3 xy_4))) (x_if (Nat.ble M 6) (x_if (Nat.ble M 5) xy_5 xy_6) (x_if (Nat.ble M 7) xy_7 (x_if (Nat.ble M 8) xy_8 xy_9)))) (x_if (Nat.ble M 14) (x_if (Nat.ble M 11) (x_if (Nat.ble M 10) xy_10 xy_11) (x_if (Nat.ble M 12) xy_12 (x_if (Nat.ble M 13) xy_13 xy_14))) (x_if (Nat.ble M 17) (x_if (Nat.ble M 15) xy_15 (x_if (Nat.ble M 16) xy_16 xy_17)) (x_if (Nat.ble M 18) xy_18 (x_if (Nat.ble M 19) xy_19 xy_20))))) (x_if (Nat.ble M 30) (x_if (Nat.ble M 25) (x_if (Nat.ble M 22) (x_if (Nat.ble M 21) xy_21 xy_22) (x_if (Nat.ble M 23) xy_23 (x_if (Nat.ble M 24) xy_24 xy_25))) (x_if (Nat.ble M 27) (x_if (Nat.ble M 26) xy_26 xy_27) (x_if (Nat.ble M 28) xy_28 (x_if (Nat.ble M 29) xy_29 xy_30)))) (x_if (Nat.ble M 35) (x_if (Nat.ble M 32) (x_if (Nat.ble M 31) xy_31 xy_32) (x_if (Nat.ble M 33) xy_33 (x_if (Nat.ble M 34) xy_34 xy_35))) (x_if (Nat.ble M 38) (x_if (Nat.ble M 36) xy_36 (x_if (Nat.ble M 37) xy_37 xy_38)) (x_if (Nat.ble M 39) xy_39 (x_if (Nat.ble M 40) xy_40 xy_41)))))) (x_if (Nat.ble M 62) (x_if (Nat.ble M 51) (x_if (Nat.ble M 46) (x_if (Nat.ble M 43) (x_if (Nat.ble M 42) xy_42 xy_43) (x_if (Nat.ble M 44) xy_44 (x_if (Nat.ble M 45) xy_45 xy_46))) (x_if (Nat.ble M 48) (x_if (Nat.ble M 47) xy_47 xy_48) (x_if (Nat.ble M 49) xy_49 (x_if (Nat.ble M 50) xy_50 xy_51)))) (x_if (Nat.ble M 56) (x_if (Nat.ble M 53) (x_if (Nat.ble M 52) xy_52 xy_53) (x_if (Nat.ble M 54) xy_54 (x_if (Nat.ble M 55) xy_55 xy_56))) (x_if (Nat.ble M 59) (x_if (Nat.ble M 57) xy_57 (x_if (Nat.ble M 58) xy_58 xy_59)) (x_if (Nat.ble M 60) xy_60 (x_if (Nat.ble M 61) xy_61 xy_62))))) (x_if (Nat.ble M 73) (x_if (Nat.ble M 67) (x_if (Nat.ble M 64) (x_if (Nat.ble M 63) xy_63 xy_64) (x_if (Nat.ble M 65) xy_65 (x_if (Nat.ble M 66) xy_66 xy_67))) (x_if (Nat.ble M 70) (x_if (Nat.ble M 68) xy_68 (x_if (Nat.ble M 69) xy_69 xy_70)) (x_if (Nat.ble M 71) xy_71 (x_if (Nat.ble M 72) xy_72 xy_73)))) (x_if (Nat.ble M 78) (x_if (Nat.ble M 75) (x_if (Nat.ble M 74) xy_74 xy_75) (x_if (Nat.ble M 76) xy_76 (x_if (Nat.ble M 77) xy_77 xy_78))) (x_if (Nat.ble M 81) (x_if (Nat.ble M 79) xy_79 (x_if (Nat.ble M 80) xy_80 xy_81)) (x_if (Nat.ble M 82) xy_82 (x_if (Nat.ble M 83) xy_83 xy_84))))))) (x_if (Nat.ble M 126) (x_if (Nat.ble M 105) (x_if (Nat.ble M 94) (x_if (Nat.ble M 89) (x_if (Nat.ble M 86) (x_if (Nat.ble M 85) xy_85 xy_86) (x_if (Nat.ble M 87) xy_87 (x_if (Nat.ble M 88) xy_88 xy_89))) (x_if (Nat.ble M 91) (x_if (Nat.ble M 90) xy_90 xy_91) (x_if (Nat.ble M 92) xy_92 (x_if (Nat.ble M 93) xy_93 xy_94)))) (x_if (Nat.ble M 99) (x_if (Nat.ble M 96) (x_if (Nat.ble M 95) xy_95 xy_96) (x_if (Nat.ble M 97) xy_97 (x_if (Nat.ble M 98) xy_98 xy_99))) (x_if (Nat.ble M 102) (x_if (Nat.ble M 100) xy_100 (x_if (Nat.ble M 101) xy_101 xy_102)) (x_if (Nat.ble M 103) xy_103 (x_if (Nat.ble M 104) xy_104 xy_105))))) (x_if (Nat.ble M 115) (x_if (Nat.ble M 110) (x_if (Nat.ble M 107) (x_if (Nat.ble M 106) xy_106 xy_107) (x_if (Nat.ble M 108) xy_108 (x_if (Nat.ble M 109) xy_109 xy_110))) (x_if (Nat.ble M 112) (x_if (Nat.ble M 111) xy_111 xy_112) (x_if (Nat.ble M 113) xy_113 (x_if (Nat.ble M 114) xy_114 xy_115)))) (x_if (Nat.ble M 120) (x_if (Nat.ble M 117) (x_if (Nat.ble M 116) xy_116 xy_117) (x_if (Nat.ble M 118) xy_118 (x_if (Nat.ble M 119) xy_119 xy_120))) (x_if (Nat.ble M 123) (x_if (Nat.ble M 121) xy_121 (x_if (Nat.ble M 122) xy_122 xy_123)) (x_if (Nat.ble M 124) xy_124 (x_if (Nat.ble M 125) xy_125 xy_126)))))) (x_if (Nat.ble M 147) (x_if (Nat.ble M 136) (x_if (Nat.ble M 131) (x_if (Nat.ble M 128) (x_if (Nat.ble M 127) xy_127 xy_128) (x_if (Nat.ble M 129) xy_129 (x_if (Nat.ble M 130) xy_130 xy_131))) (x_if (Nat.ble M 133) (x_if (Nat.ble M 132) xy_132 xy_133) (x_if (Nat.ble M 134) xy_134 (x_if (Nat.ble M 135) xy_135 xy_136)))) (x_if (Nat.ble M 141) (x_if (Nat.ble M 138) (x_if (Nat.ble M 137) xy_137 xy_138) (x_if (Nat.ble M 139) xy_139 (x_if (Nat.ble M 140) xy_140 xy_141))) (x_if (Nat.ble M 144) (x_if (Nat.ble M 142) xy_142 (x_if (Nat.ble M 143) xy_143 xy_144)) (x_if (Nat.ble M 145) xy_145 (x_if (Nat.ble M 146) xy_146 xy_147))))) (x_if (Nat.ble M 158) (x_if (Nat.ble M 152) (x_if (Nat.ble M 149) (x_if (Nat.ble M 148) xy_148 xy_149) (x_if (Nat.ble M 150) xy_150 (x_if (Nat.ble M 151) xy_151 xy_152))) (x_if (Nat.ble M 155) (x_if (Nat.ble M 153) xy_153 (x_if (Nat.ble M 154) xy_154 xy_155)) (x_if (Nat.ble M 156) xy_156 (x_if (Nat.ble M 157) xy_157 xy_158)))) (x_if (Nat.ble M 163) (x_if (Nat.ble M 160) (x_if (Nat.ble M 159) xy_159 xy_160) (x_if (Nat.ble M 161) xy_161 (x_if (Nat.ble M 162) xy_162 xy_163))) (x_if (Nat.ble M 166) (x_if (Nat.ble M 164) xy_164 (x_if (Nat.ble M 165) xy_165 xy_166)) (x_if (Nat.ble M 167) xy_167 (x_if (Nat.ble M 168) xy_168 xy_169)))))))) (x_if (Nat.ble M 254) (x_if (Nat.ble M 211) (x_if (Nat.ble M 190) (x_if (Nat.ble M 179) (x_if (Nat.ble M 174) (x_if (Nat.ble M 171) (x_if (Nat.ble M 170) xy_170 xy_171) (x_if (Nat.ble M 172) xy_172 (x_if (Nat.ble M 173) xy_173 xy_174))) (x_if (Nat.ble M 176) (x_if (Nat.ble M 175) xy_175 xy_176) (x_if (Nat.ble M 177) xy_177 (x_if (Nat.ble M 178) xy_178 xy_179)))) (x_if (Nat.ble M 184) (x_if (Nat.ble M 181) (x_if (Nat.ble M 180) xy_180 xy_181) (x_if (Nat.ble M 182) xy_182 (x_if (Nat.ble M 183) xy_183 xy_184))) (x_if (Nat.ble M 187) (x_if (Nat.ble M 185) xy_185 (x_if (Nat.ble M 186) xy_186 xy_187)) (x_if (Nat.ble M 188) xy_188 (x_if (Nat.ble M 189) xy_189 xy_190))))) (x_if (Nat.ble M 200) (x_if (Nat.ble M 195) (x_if (Nat.ble M 192) (x_if (Nat.ble M 191) xy_191 xy_192) (x_if (Nat.ble M 193) xy_193 (x_if (Nat.ble M 194) xy_194 xy_195))) (x_if (Nat.ble M 197) (x_if (Nat.ble M 196) xy_196 xy_197) (x_if (Nat.ble M 198) xy_198 (x_if (Nat.ble M 199) xy_199 xy_200)))) (x_if (Nat.ble M 205) (x_if (Nat.ble M 202) (x_if (Nat.ble M 201) xy_201 xy_202) (x_if (Nat.ble M 203) xy_203 (x_if (Nat.ble M 204) xy_204 xy_205))) (x_if (Nat.ble M 208) (x_if (Nat.ble M 206) xy_206 (x_if (Nat.ble M 207) xy_207 xy_208)) (x_if (Nat.ble M 209) xy_209 (x_if (Nat.ble M 210) xy_210 xy_211)))))) (x_if (Nat.ble M 232) (x_if (Nat.ble M 221) (x_if (Nat.ble M 216) (x_if (Nat.ble M 213) (x_if (Nat.ble M 212) xy_212 xy_213) (x_if (Nat.ble M 214) xy_214 (x_if (Nat.ble M 215) xy_215 xy_216))) (x_if (Nat.ble M 218) (x_if (Nat.ble M 217) xy_217 xy_218) (x_if (Nat.ble M 219) xy_219 (x_if (Nat.ble M 220) xy_220 xy_221)))) (x_if (Nat.ble M 226) (x_if (Nat.ble M 223) (x_if (Nat.ble M 222) xy_222 xy_223) (x_if (Nat.ble M 224) xy_224 (x_if (Nat.ble M 225) xy_225 xy_226))) (x_if (Nat.ble M 229) (x_if (Nat.ble M 227) xy_227 (x_if (Nat.ble M 228) xy_228 xy_229)) (x_if (Nat.ble M 230) xy_230 (x_if (Nat.ble M 231) xy_231 xy_232))))) (x_if (Nat.ble M 243) (x_if (Nat.ble M 237) (x_if (Nat.ble M 234) (x_if (Nat.ble M 233) xy_233 xy_234) (x_if (Nat.ble M 235) xy_235 (x_if (Nat.ble M 236) xy_236 xy_237))) (x_if (Nat.ble M 240) (x_if (Nat.ble M 238) xy_238 (x_if (Nat.ble M 239) xy_239 xy_240)) (x_if (Nat.ble M 241) xy_241 (x_if (Nat.ble M 242) xy_242 xy_243)))) (x_if (Nat.ble M 248) (x_if (Nat.ble M 245) (x_if (Nat.ble M 244) xy_244 xy_245) (x_if (Nat.ble M 246) xy_246 (x_if (Nat.ble M 247) xy_247 xy_248))) (x_if (Nat.ble M 251) (x_if (Nat.ble M 249) xy_249 (x_if (Nat.ble M 250) xy_250 xy_251)) (x_if (Nat.ble M 252) xy_252 (x_if (Nat.ble M 253) xy_253 xy_254))))))) (x_if (Nat.ble M 297) (x_if (Nat.ble M 275) (x_if (Nat.ble M 264) (x_if (Nat.ble M 259) (x_if (Nat.ble M 256) (x_if (Nat.ble M 255) xy_255 xy_256) (x_if (Nat.ble M 257) xy_257 (x_if (Nat.ble M 258) xy_258 xy_259))) (x_if (Nat.ble M 261) (x_if (Nat.ble M 260) xy_260 xy_261) (x_if (Nat.ble M 262) xy_262 (x_if (Nat.ble M 263) xy_263 xy_264)))) (x_if (Nat.ble M 269) (x_if (Nat.ble M 266) (x_if (Nat.ble M 265) xy_265 xy_266) (x_if (Nat.ble M 267) xy_267 (x_if (Nat.ble M 268) xy_268 xy_269))) (x_if (Nat.ble M 272) (x_if (Nat.ble M 270) xy_270 (x_if (Nat.ble M 271) xy_271 xy_272)) (x_if (Nat.ble M 273) xy_273 (x_if (Nat.ble M 274) xy_274 xy_275))))) (x_if (Nat.ble M 286) (x_if (Nat.ble M 280) (x_if (Nat.ble M 277) (x_if (Nat.ble M 276) xy_276 xy_277) (x_if (Nat.ble M 278) xy_278 (x_if (Nat.ble M 279) xy_279 xy_280))) (x_if (Nat.ble M 283) (x_if (Nat.ble M 281) xy_281 (x_if (Nat.ble M 282) xy_282 xy_283)) (x_if (Nat.ble M 284) xy_284 (x_if (Nat.ble M 285) xy_285 xy_286)))) (x_if (Nat.ble M 291) (x_if (Nat.ble M 288) (x_if (Nat.ble M 287) xy_287 xy_288) (x_if (Nat.ble M 289) xy_289 (x_if (Nat.ble M 290) xy_290 xy_291))) (x_if (Nat.ble M 294) (x_if (Nat.ble M 292) xy_292 (x_if (Nat.ble M 293) xy_293 xy_294)) (x_if (Nat.ble M 295) xy_295 (x_if (Nat.ble M 296) xy_296 xy_297)))))) (x_if (Nat.ble M 318) (x_if (Nat.ble M 307) (x_if (Nat.ble M 302) (x_if (Nat.ble M 299) (x_if (Nat.ble M 298) xy_298 xy_299) (x_if (Nat.ble M 300) xy_300 (x_if (Nat.ble M 301) xy_301 xy_302))) (x_if (Nat.ble M 304) (x_if (Nat.ble M 303) xy_303 xy_304) (x_if (Nat.ble M 305) xy_305 (x_if (Nat.ble M 306) xy_306 xy_307)))) (x_if (Nat.ble M 312) (x_if (Nat.ble M 309) (x_if (Nat.ble M 308) xy_308 xy_309) (x_if (Nat.ble M 310) xy_310 (x_if (Nat.ble M 311) xy_311 xy_312))) (x_if (Nat.ble M 315) (x_if (Nat.ble M 313) xy_313 (x_if (Nat.ble M 314) xy_314 xy_315)) (x_if (Nat.ble M 316) xy_316 (x_if (Nat.ble M 317) xy_317 xy_318))))) (x_if (Nat.ble M 329) (x_if (Nat.ble M 323) (x_if (Nat.ble M 320) (x_if (Nat.ble M 319) xy_319 xy_320) (x_if (Nat.ble M 321) xy_321 (x_if (Nat.ble M 322) xy_322 xy_323))) (x_if (Nat.ble M 326) (x_if (Nat.ble M 324) xy_324 (x_if (Nat.ble M 325) xy_325 xy_326)) (x_if (Nat.ble M 327) xy_327 (x_if (Nat.ble M 328) xy_328 xy_329)))) (x_if (Nat.ble M 334) (x_if (Nat.ble M 331) (x_if (Nat.ble M 330) xy_330 xy_331) (x_if (Nat.ble M 332) xy_332 (x_if (Nat.ble M 333) xy_333 xy_334))) (x_if (Nat.ble M 337) (x_if (Nat.ble M 335) xy_335 (x_if (Nat.ble M 336) xy_336 xy_337)) (x_if (Nat.ble M 338) xy_338 (x_if (Nat.ble M 339) xy_339 xy_340)))))))))
noncomputable def xWS (M : Nat) : List Cond := (x_if (Nat.ble M 169) (x_if (Nat.ble M 84) (x_if (Nat.ble M 41) (x_if (Nat.ble M 20) (x_if (Nat.ble M 9) (x_if (Nat.ble M 4) (x_if (Nat.ble M 1) (x_if (Nat.ble M 0) xk_0 xk_1) (x_if (Nat.ble M 2) xk_2 (x_if (Nat.ble M 3) xk_3 xk_4))) (x_if (Nat.ble M 6) (x_if (Nat.ble M 5) xk_5 xk_6) (x_if (Nat.ble M 7) xk_7 (x_if (Nat.ble M 8) xk_8 xk_9)))) (x_if (Nat.ble M 14) (x_if (Nat.ble M 11) (x_if (Nat.ble M 10) xk_10 xk_11) (x_if (Nat.ble M 12) xk_12 (x_if (Nat.ble M 13) xk_13 xk_14))) (x_if (Nat.ble M 17) (x_if (Nat.ble M 15) xk_15 (x_if (Nat.ble M 16) xk_16 xk_17)) (x_if (Nat.ble M 18) xk_18 (x_if (Nat.ble M 19) xk_19 xk_20))))) (x_if (Nat.ble M 30) (x_if (Nat.ble M 25) (x_if (Nat.ble M 22) (x_if (Nat.ble M 21) xk_21 xk_22) (x_if (Nat.ble M 23) xk_23 (x_if (Nat.ble M 24) xk_24 xk_25))) (x_if (Nat.ble M 27) (x_if (Nat.ble M 26) xk_26 xk_27) (x_if (Nat.ble M 28) xk_28 (x_if (Nat.ble M 29) xk_29 xk_30)))) (x_if (Nat.ble M 35) (x_if (Nat.ble M 32) (x_if (Nat.ble M 31) xk_31 xk_32) (x_if (Nat.ble M 33) xk_33 (x_if (Nat.ble M 34) xk_34 xk_35))) (x_if (Nat.ble M 38) (x_if (Nat.ble M 36) xk_36 (x_if (Nat.ble M 37) xk_37 xk_38)) (x_if (Nat.ble M 39) xk_39 (x_if (Nat.ble M 40) xk_40 xk_41)))))) (x_if (Nat.ble M 62) (x_if (Nat.ble M 51) (x_if (Nat.ble M 46) (x_if (Nat.ble M 43) (x_if (Nat.ble M 42) xk_42 xk_43) (x_if (Nat.ble M 44) xk_44 (x_if (Nat.ble M 45) xk_45 xk_46))) (x_if (Nat.ble M 48) (x_if (Nat.ble M 47) xk_47 xk_48) (x_if (Nat.ble M 49) xk_49 (x_if (Nat.ble M 50) xk_50 xk_51)))) (x_if (Nat.ble M 56) (x_if (Nat.ble M 53) (x_if (Nat.ble M 52) xk_52 xk_53) (x_if (Nat.ble M 54) xk_54 (x_if (Nat.ble M 55) xk_55 xk_56))) (x_if (Nat.ble M 59) (x_if (Nat.ble M 57) xk_57 (x_if (Nat.ble M 58) xk_58 xk_59)) (x_if (Nat.ble M 60) xk_60 (x_if (Nat.ble M 61) xk_61 xk_62))))) (x_if (Nat.ble M 73) (x_if (Nat.ble M 67) (x_if (Nat.ble M 64) (x_if (Nat.ble M 63) xk_63 xk_64) (x_if (Nat.ble M 65) xk_65 (x_if (Nat.ble M 66) xk_66 xk_67))) (x_if (Nat.ble M 70) (x_if (Nat.ble M 68) xk_68 (x_if (Nat.ble M 69) xk_69 xk_70)) (x_if (Nat.ble M 71) xk_71 (x_if (Nat.ble M 72) xk_72 xk_73)))) (x_if (Nat.ble M 78) (x_if (Nat.ble M 75) (x_if (Nat.ble M 74) xk_74 xk_75) (x_if (Nat.ble M 76) xk_76 (x_if (Nat.ble M 77) xk_77 xk_78))) (x_if (Nat.ble M 81) (x_if (Nat.ble M 79) xk_79 (x_if (Nat.ble M 80) xk_80 xk_81)) (x_if (Nat.ble M 82) xk_82 (x_if (Nat.ble M 83) xk_83 xk_84))))))) (x_if (Nat.ble M 126) (x_if (Nat.ble M 105) (x_if (Nat.ble M 94) (x_if (Nat.ble M 89) (x_if (Nat.ble M 86) (x_if (Nat.ble M 85) xk_85 xk_86) (x_if (Nat.ble M 87) xk_87 (x_if (Nat.ble M 88) xk_88 xk_89))) (x_if (Nat.ble M 91) (x_if (Nat.ble M 90) xk_90 xk_91) (x_if (Nat.ble M 92) xk_92 (x_if (Nat.ble M 93) xk_93 xk_94)))) (x_if (Nat.ble M 99) (x_if (Nat.ble M 96) (x_if (Nat.ble M 95) xk_95 xk_96) (x_if (Nat.ble M 97) xk_97 (x_if (Nat.ble M 98) xk_98 xk_99))) (x_if (Nat.ble M 102) (x_if (Nat.ble M 100) xk_100 (x_if (Nat.ble M 101) xk_101 xk_102)) (x_if (Nat.ble M 103) xk_103 (x_if (Nat.ble M 104) xk_104 xk_105))))) (x_if (Nat.ble M 115) (x_if (Nat.ble M 110) (x_if (Nat.ble M 107) (x_if (Nat.ble M 106) xk_106 xk_107) (x_if (Nat.ble M 108) xk_108 (x_if (Nat.ble M 109) xk_109 xk_110))) (x_if (Nat.ble M 112) (x_if (Nat.ble M 111) xk_111 xk_112) (x_if (Nat.ble M 113) xk_113 (x_if (Nat.ble M 114) xk_114 xk_115)))) (x_if (Nat.ble M 120) (x_if (Nat.ble M 117) (x_if (Nat.ble M 116) xk_116 xk_117) (x_if (Nat.ble M 118) xk_118 (x_if (Nat.ble M 119) xk_119 xk_120))) (x_if (Nat.ble M 123) (x_if (Nat.ble M 121) xk_121 (x_if (Nat.ble M 122) xk_122 xk_123)) (x_if (Nat.ble M 124) xk_124 (x_if (Nat.ble M 125) xk_125 xk_126)))))) (x_if (Nat.ble M 147) (x_if (Nat.ble M 136) (x_if (Nat.ble M 131) (x_if (Nat.ble M 128) (x_if (Nat.ble M 127) xk_127 xk_128) (x_if (Nat.ble M 129) xk_129 (x_if (Nat.ble M 130) xk_130 xk_131))) (x_if (Nat.ble M 133) (x_if (Nat.ble M 132) xk_132 xk_133) (x_if (Nat.ble M 134) xk_134 (x_if (Nat.ble M 135) xk_135 xk_136)))) (x_if (Nat.ble M 141) (x_if (Nat.ble M 138) (x_if (Nat.ble M 137) xk_137 xk_138) (x_if (Nat.ble M 139) xk_139 (x_if (Nat.ble M 140) xk_140 xk_141))) (x_if (Nat.ble M 144) (x_if (Nat.ble M 142) xk_142 (x_if (Nat.ble M 143) xk_143 xk_144)) (x_if (Nat.ble M 145) xk_145 (x_if (Nat.ble M 146) xk_146 xk_147))))) (x_if (Nat.ble M 158) (x_if (Nat.ble M 152) (x_if (Nat.ble M 149) (x_if (Nat.ble M 148) xk_148 xk_149) (x_if (Nat.ble M 150) xk_150 (x_if (Nat.ble M 151) xk_151 xk_152))) (x_if (Nat.ble M 155) (x_if (Nat.ble M 153) xk_153 (x_if (Nat.ble M 154) xk_154 xk_155)) (x_if (Nat.ble M 156) xk_156 (x_if (Nat.ble M 157) xk_157 xk_158)))) (x_if (Nat.ble M 163) (x_if (Nat.ble M 160) (x_if (Nat.ble M 159) xk_159 xk_160) (x_if (Nat.ble M 161) xk_161 (x_if (Nat.ble M 162) xk_162 xk_163))) (x_if (Nat.ble M 166) (x_if (Nat.ble M 164) xk_164 (x_if (Nat.ble M 165) xk_165 xk_166)) (x_if (Nat.ble M 167) xk_167 (x_if (Nat.ble M 168) xk_168 xk_169)))))))) (x_if (Nat.ble M 254) (x_if (Nat.ble M 211) (x_if (Nat.ble M 190) (x_if (Nat.ble M 179) (x_if (Nat.ble M 174) (x_if (Nat.ble M 171) (x_if (Nat.ble M 170) xk_170 xk_171) (x_if (Nat.ble M 172) xk_172 (x_if (Nat.ble M 173) xk_173 xk_174))) (x_if (Nat.ble M 176) (x_if (Nat.ble M 175) xk_175 xk_176) (x_if (Nat.ble M 177) xk_177 (x_if (Nat.ble M 178) xk_178 xk_179)))) (x_if (Nat.ble M 184) (x_if (Nat.ble M 181) (x_if (Nat.ble M 180) xk_180 xk_181) (x_if (Nat.ble M 182) xk_182 (x_if (Nat.ble M 183) xk_183 xk_184))) (x_if (Nat.ble M 187) (x_if (Nat.ble M 185) xk_185 (x_if (Nat.ble M 186) xk_186 xk_187)) (x_if (Nat.ble M 188) xk_188 (x_if (Nat.ble M 189) xk_189 xk_190))))) (x_if (Nat.ble M 200) (x_if (Nat.ble M 195) (x_if (Nat.ble M 192) (x_if (Nat.ble M 191) xk_191 xk_192) (x_if (Nat.ble M 193) xk_193 (x_if (Nat.ble M 194) xk_194 xk_195))) (x_if (Nat.ble M 197) (x_if (Nat.ble M 196) xk_196 xk_197) (x_if (Nat.ble M 198) xk_198 (x_if (Nat.ble M 199) xk_199 xk_200)))) (x_if (Nat.ble M 205) (x_if (Nat.ble M 202) (x_if (Nat.ble M 201) xk_201 xk_202) (x_if (Nat.ble M 203) xk_203 (x_if (Nat.ble M 204) xk_204 xk_205))) (x_if (Nat.ble M 208) (x_if (Nat.ble M 206) xk_206 (x_if (Nat.ble M 207) xk_207 xk_208)) (x_if (Nat.ble M 209) xk_209 (x_if (Nat.ble M 210) xk_210 xk_211)))))) (x_if (Nat.ble M 232) (x_if (Nat.ble M 221) (x_if (Nat.ble M 216) (x_if (Nat.ble M 213) (x_if (Nat.ble M 212) xk_212 xk_213) (x_if (Nat.ble M 214) xk_214 (x_if (Nat.ble M 215) xk_215 xk_216))) (x_if (Nat.ble M 218) (x_if (Nat.ble M 217) xk_217 xk_218) (x_if (Nat.ble M 219) xk_219 (x_if (Nat.ble M 220) xk_220 xk_221)))) (x_if (Nat.ble M 226) (x_if (Nat.ble M 223) (x_if (Nat.ble M 222) xk_222 xk_223) (x_if (Nat.ble M 224) xk_224 (x_if (Nat.ble M 225) xk_225 xk_226))) (x_if (Nat.ble M 229) (x_if (Nat.ble M 227) xk_227 (x_if (Nat.ble M 228) xk_228 xk_229)) (x_if (Nat.ble M 230) xk_230 (x_if (Nat.ble M 231) xk_231 xk_232))))) (x_if (Nat.ble M 243) (x_if (Nat.ble M 237) (x_if (Nat.ble M 234) (x_if (Nat.ble M 233) xk_233 xk_234) (x_if (Nat.ble M 235) xk_235 (x_if (Nat.ble M 236) xk_236 xk_237))) (x_if (Nat.ble M 240) (x_if (Nat.ble M 238) xk_238 (x_if (Nat.ble M 239) xk_239 xk_240)) (x_if (Nat.ble M 241) xk_241 (x_if (Nat.ble M 242) xk_242 xk_243)))) (x_if (Nat.ble M 248) (x_if (Nat.ble M 245) (x_if (Nat.ble M 244) xk_244 xk_245) (x_if (Nat.ble M 246) xk_246 (x_if (Nat.ble M 247) xk_247 xk_248))) (x_if (Nat.ble M 251) (x_if (Nat.ble M 249) xk_249 (x_if (Nat.ble M 250) xk_250 xk_251)) (x_if (Nat.ble M 252) xk_252 (x_if (Nat.ble M 253) xk_253 xk_254))))))) (x_if (Nat.ble M 297) (x_if (Nat.ble M 275) (x_if (Nat.ble M 264) (x_if (Nat.ble M 259) (x_if (Nat.ble M 256) (x_if (Nat.ble M 255) xk_255 xk_256) (x_if (Nat.ble M 257) xk_257 (x_if (Nat.ble M 258) xk_258 xk_259))) (x_if (Nat.ble M 261) (x_if (Nat.ble M 260) xk_260 xk_261) (x_if (Nat.ble M 262) xk_262 (x_if (Nat.ble M 263) xk_263 xk_264)))) (x_if (Nat.ble M 269) (x_if (Nat.ble M 266) (x_if (Nat.ble M 265) xk_265 xk_266) (x_if (Nat.ble M 267) xk_267 (x_if (Nat.ble M 268) xk_268 xk_269))) (x_if (Nat.ble M 272) (x_if (Nat.ble M 270) xk_270 (x_if (Nat.ble M 271) xk_271 xk_272)) (x_if (Nat.ble M 273) xk_273 (x_if (Nat.ble M 274) xk_274 xk_275))))) (x_if (Nat.ble M 286) (x_if (Nat.ble M 280) (x_if (Nat.ble M 277) (x_if (Nat.ble M 276) xk_276 xk_277) (x_if (Nat.ble M 278) xk_278 (x_if (Nat.ble M 279) xk_279 xk_280))) (x_if (Nat.ble M 283) (x_if (Nat.ble M 281) xk_281 (x_if (Nat.ble M 282) xk_282 xk_283)) (x_if (Nat.ble M 284) xk_284 (x_if (Nat.ble M 285) xk_285 xk_286)))) (x_if (Nat.ble M 291) (x_if (Nat.ble M 288) (x_if (Nat.ble M 287) xk_287 xk_288) (x_if (Nat.ble M 289) xk_289 (x_if (Nat.ble M 290) xk_290 xk_291))) (x_if (Nat.ble M 294) (x_if (Nat.ble M 292) xk_292 (x_if (Nat.ble M 293) xk_293 xk_294)) (x_if (Nat.ble M 295) xk_295 (x_if (Nat.ble M 296) xk_296 xk_297)))))) (x_if (Nat.ble M 318) (x_if (Nat.ble M 307) (x_if (Nat.ble M 302) (x_if (Nat.ble M 299) (x_if (Nat.ble M 298) xk_298 xk_299) (x_if (Nat.ble M 300) xk_300 (x_if (Nat.ble M 301) xk_301 xk_302))) (x_if (Nat.ble M 304) (x_if (Nat.ble M 303) xk_303 xk_304) (x_if (Nat.ble M 305) xk_305 (x_if (Nat.ble M 306) xk_306 xk_307)))) (x_if (Nat.ble M 312) (x_if (Nat.ble M 309) (x_if (Nat.ble M 308) xk_308 xk_309) (x_if (Nat.ble M 310) xk_310 (x_if (Nat.ble M 311) xk_311 xk_312))) (x_if (Nat.ble M 315) (x_if (Nat.ble M 313) xk_313 (x_if (Nat.ble M 314) xk_314 xk_315)) (x_if (Nat.ble M 316) xk_316 (x_if (Nat.ble M 317) xk_317 xk_318))))) (x_if (Nat.ble M 329) (x_if (Nat.ble M 323) (x_if (Nat.ble M 320) (x_if (Nat.ble M 319) xk_319 xk_320) (x_if (Nat.ble M 321) xk_321 (x_if (Nat.ble M 322) xk_322 xk_323))) (x_if (Nat.ble M 326) (x_if (Nat.ble M 324) xk_324 (x_if (Nat.ble M 325) xk_325 xk_326)) (x_if (Nat.ble M 327) xk_327 (x_if (Nat.ble M 328) xk_328 xk_329)))) (x_if (Nat.ble M 334) (x_if (Nat.ble M 331) (x_if (Nat.ble M 330) xk_330 xk_331) (x_if (Nat.ble M 332) xk_332 (x_if (Nat.ble M 333) xk_333 xk_334))) (x_if (Nat.ble M 337) (x_if (Nat.ble M 335) xk_335 (x_if (Nat.ble M 336) xk_336 xk_337)) (x_if (Nat.ble M 338) xk_338 (x_if (Nat.ble M 339) xk_339 xk_340))))))))) :: xBIG
noncomputable def xNL (M : Nat) : Nat := (x_if (Nat.ble M 169) (x_if (Nat.ble M 84) (x_if (Nat.ble M 41) (x_if (Nat.ble M 20) (x_if (Nat.ble M 9) (x_if (Nat.ble M 4) (x_if (Nat.ble M 1) (x_if (Nat.ble M 0) 1 2) (x_if (Nat.ble M 2) 2 (x_if (Nat.ble M 3) 1 5))) (x_if (Nat.ble M 6) (x_if (Nat.ble M 5) 5 2) (x_if (Nat.ble M 7) 3 (x_if (Nat.ble M 8) 4 1)))) (x_if (Nat.ble M 14) (x_if (Nat.ble M 11) (x_if (Nat.ble M 10) 1 3) (x_if (Nat.ble M 12) 3 (x_if (Nat.ble M 13) 3 3))) (x_if (Nat.ble M 17) (x_if (Nat.ble M 15) 3 (x_if (Nat.ble M 16) 3 2)) (x_if (Nat.ble M 18) 4 (x_if (Nat.ble M 19) 2 6))))) (x_if (Nat.ble M 30) (x_if (Nat.ble M 25) (x_if (Nat.ble M 22) (x_if (Nat.ble M 21) 2 2) (x_if (Nat.ble M 23) 3 (x_if (Nat.ble M 24) 6 2))) (x_if (Nat.ble M 27) (x_if (Nat.ble M 26) 3 4) (x_if (Nat.ble M 28) 2 (x_if (Nat.ble M 29) 2 3)))) (x_if (Nat.ble M 35) (x_if (Nat.ble M 32) (x_if (Nat.ble M 31) 2 2) (x_if (Nat.ble M 33) 1 (x_if (Nat.ble M 34) 2 2))) (x_if (Nat.ble M 38) (x_if (Nat.ble M 36) 2 (x_if (Nat.ble M 37) 1 3)) (x_if (Nat.ble M 39) 5 (x_if (Nat.ble M 40) 2 3)))))) (x_if (Nat.ble M 62) (x_if (Nat.ble M 51) (x_if (Nat.ble M 46) (x_if (Nat.ble M 43) (x_if (Nat.ble M 42) 8 1) (x_if (Nat.ble M 44) 4 (x_if (Nat.ble M 45) 1 3))) (x_if (Nat.ble M 48) (x_if (Nat.ble M 47) 1 1) (x_if (Nat.ble M 49) 1 (x_if (Nat.ble M 50) 2 3)))) (x_if (Nat.ble M 56) (x_if (Nat.ble M 53) (x_if (Nat.ble M 52) 3 3) (x_if (Nat.ble M 54) 3 (x_if (Nat.ble M 55) 3 5))) (x_if (Nat.ble M 59) (x_if (Nat.ble M 57) 9 (x_if (Nat.ble M 58) 10 4)) (x_if (Nat.ble M 60) 2 (x_if (Nat.ble M 61) 5 2))))) (x_if (Nat.ble M 73) (x_if (Nat.ble M 67) (x_if (Nat.ble M 64) (x_if (Nat.ble M 63) 4 1) (x_if (Nat.ble M 65) 3 (x_if (Nat.ble M 66) 3 3))) (x_if (Nat.ble M 70) (x_if (Nat.ble M 68) 3 (x_if (Nat.ble M 69) 6 9)) (x_if (Nat.ble M 71) 5 (x_if (Nat.ble M 72) 1 2)))) (x_if (Nat.ble M 78) (x_if (Nat.ble M 75) (x_if (Nat.ble M 74) 5 2) (x_if (Nat.ble M 76) 3 (x_if (Nat.ble M 77) 2 1))) (x_if (Nat.ble M 81) (x_if (Nat.ble M 79) 6 (x_if (Nat.ble M 80) 2 3)) (x_if (Nat.ble M 82) 3 (x_if (Nat.ble M 83) 1 4))))))) (x_if (Nat.ble M 126) (x_if (Nat.ble M 105) (x_if (Nat.ble M 94) (x_if (Nat.ble M 89) (x_if (Nat.ble M 86) (x_if (Nat.ble M 85) 1 1) (x_if (Nat.ble M 87) 1 (x_if (Nat.ble M 88) 7 5))) (x_if (Nat.ble M 91) (x_if (Nat.ble M 90) 1 2) (x_if (Nat.ble M 92) 3 (x_if (Nat.ble M 93) 4 2)))) (x_if (Nat.ble M 99) (x_if (Nat.ble M 96) (x_if (Nat.ble M 95) 3 4) (x_if (Nat.ble M 97) 4 (x_if (Nat.ble M 98) 2 1))) (x_if (Nat.ble M 102) (x_if (Nat.ble M 100) 4 (x_if (Nat.ble M 101) 6 3)) (x_if (Nat.ble M 103) 3 (x_if (Nat.ble M 104) 3 2))))) (x_if (Nat.ble M 115) (x_if (Nat.ble M 110) (x_if (Nat.ble M 107) (x_if (Nat.ble M 106) 4 5) (x_if (Nat.ble M 108) 3 (x_if (Nat.ble M 109) 5 9))) (x_if (Nat.ble M 112) (x_if (Nat.ble M 111) 4 1) (x_if (Nat.ble M 113) 3 (x_if (Nat.ble M 114) 8 3)))) (x_if (Nat.ble M 120) (x_if (Nat.ble M 117) (x_if (Nat.ble M 116) 5 2) (x_if (Nat.ble M 118) 3 (x_if (Nat.ble M 119) 4 8))) (x_if (Nat.ble M 123) (x_if (Nat.ble M 121) 6 (x_if (Nat.ble M 122) 3 5)) (x_if (Nat.ble M 124) 4 (x_if (Nat.ble M 125) 2 2)))))) (x_if (Nat.ble M 147) (x_if (Nat.ble M 136) (x_if (Nat.ble M 131) (x_if (Nat.ble M 128) (x_if (Nat.ble M 127) 4 2) (x_if (Nat.ble M 129) 8 (x_if (Nat.ble M 130) 6 3))) (x_if (Nat.ble M 133) (x_if (Nat.ble M 132) 3 2) (x_if (Nat.ble M 134) 4 (x_if (Nat.ble M 135) 4 2)))) (x_if (Nat.ble M 141) (x_if (Nat.ble M 138) (x_if (Nat.ble M 137) 2 1) (x_if (Nat.ble M 139) 10 (x_if (Nat.ble M 140) 2 1))) (x_if (Nat.ble M 144) (x_if (Nat.ble M 142) 8 (x_if (Nat.ble M 143) 1 12)) (x_if (Nat.ble M 145) 3 (x_if (Nat.ble M 146) 1 1))))) (x_if (Nat.ble M 158) (x_if (Nat.ble M 152) (x_if (Nat.ble M 149) (x_if (Nat.ble M 148) 5 2) (x_if (Nat.ble M 150) 3 (x_if (Nat.ble M 151) 4 4))) (x_if (Nat.ble M 155) (x_if (Nat.ble M 153) 4 (x_if (Nat.ble M 154) 2 3)) (x_if (Nat.ble M 156) 3 (x_if (Nat.ble M 157) 3 4)))) (x_if (Nat.ble M 163) (x_if (Nat.ble M 160) (x_if (Nat.ble M 159) 5 3) (x_if (Nat.ble M 161) 3 (x_if (Nat.ble M 162) 4 4))) (x_if (Nat.ble M 166) (x_if (Nat.ble M 164) 5 (x_if (Nat.ble M 165) 4 4)) (x_if (Nat.ble M 167) 2 (x_if (Nat.ble M 168) 1 5)))))))) (x_if (Nat.ble M 254) (x_if (Nat.ble M 211) (x_if (Nat.ble M 190) (x_if (Nat.ble M 179) (x_if (Nat.ble M 174) (x_if (Nat.ble M 171) (x_if (Nat.ble M 170) 4 4) (x_if (Nat.ble M 172) 2 (x_if (Nat.ble M 173) 3 3))) (x_if (Nat.ble M 176) (x_if (Nat.ble M 175) 4 5) (x_if (Nat.ble M 177) 3 (x_if (Nat.ble M 178) 4 3)))) (x_if (Nat.ble M 184) (x_if (Nat.ble M 181) (x_if (Nat.ble M 180) 2 5) (x_if (Nat.ble M 182) 2 (x_if (Nat.ble M 183) 5 11))) (x_if (Nat.ble M 187) (x_if (Nat.ble M 185) 2 (x_if (Nat.ble M 186) 2 4)) (x_if (Nat.ble M 188) 6 (x_if (Nat.ble M 189) 9 5))))) (x_if (Nat.ble M 200) (x_if (Nat.ble M 195) (x_if (Nat.ble M 192) (x_if (Nat.ble M 191) 8 8) (x_if (Nat.ble M 193) 8 (x_if (Nat.ble M 194) 4 8))) (x_if (Nat.ble M 197) (x_if (Nat.ble M 196) 1 4) (x_if (Nat.ble M 198) 5 (x_if (Nat.ble M 199) 4 2)))) (x_if (Nat.ble M 205) (x_if (Nat.ble M 202) (x_if (Nat.ble M 201) 6 8) (x_if (Nat.ble M 203) 10 (x_if (Nat.ble M 204) 2 5))) (x_if (Nat.ble M 208) (x_if (Nat.ble M 206) 4 (x_if (Nat.ble M 207) 3 7)) (x_if (Nat.ble M 209) 1 (x_if (Nat.ble M 210) 2 5)))))) (x_if (Nat.ble M 232) (x_if (Nat.ble M 221) (x_if (Nat.ble M 216) (x_if (Nat.ble M 213) (x_if (Nat.ble M 212) 3 2) (x_if (Nat.ble M 214) 3 (x_if (Nat.ble M 215) 3 4))) (x_if (Nat.ble M 218) (x_if (Nat.ble M 217) 6 4) (x_if (Nat.ble M 219) 8 (x_if (Nat.ble M 220) 4 4)))) (x_if (Nat.ble M 226) (x_if (Nat.ble M 223) (x_if (Nat.ble M 222) 1 5) (x_if (Nat.ble M 224) 2 (x_if (Nat.ble M 225) 4 6))) (x_if (Nat.ble M 229) (x_if (Nat.ble M 227) 4 (x_if (Nat.ble M 228) 1 1)) (x_if (Nat.ble M 230) 3 (x_if (Nat.ble M 231) 3 3))))) (x_if (Nat.ble M 243) (x_if (Nat.ble M 237) (x_if (Nat.ble M 234) (x_if (Nat.ble M 233) 6 5) (x_if (Nat.ble M 235) 4 (x_if (Nat.ble M 236) 3 3))) (x_if (Nat.ble M 240) (x_if (Nat.ble M 238) 3 (x_if (Nat.ble M 239) 1 3)) (x_if (Nat.ble M 241) 2 (x_if (Nat.ble M 242) 2 2)))) (x_if (Nat.ble M 248) (x_if (Nat.ble M 245) (x_if (Nat.ble M 244) 8 4) (x_if (Nat.ble M 246) 2 (x_if (Nat.ble M 247) 9 4))) (x_if (Nat.ble M 251) (x_if (Nat.ble M 249) 6 (x_if (Nat.ble M 250) 3 3)) (x_if (Nat.ble M 252) 2 (x_if (Nat.ble M 253) 2 4))))))) (x_if (Nat.ble M 297) (x_if (Nat.ble M 275) (x_if (Nat.ble M 264) (x_if (Nat.ble M 259) (x_if (Nat.ble M 256) (x_if (Nat.ble M 255) 3 2) (x_if (Nat.ble M 257) 3 (x_if (Nat.ble M 258) 1 6))) (x_if (Nat.ble M 261) (x_if (Nat.ble M 260) 9 2) (x_if (Nat.ble M 262) 2 (x_if (Nat.ble M 263) 7 1)))) (x_if (Nat.ble M 269) (x_if (Nat.ble M 266) (x_if (Nat.ble M 265) 10 8) (x_if (Nat.ble M 267) 1 (x_if (Nat.ble M 268) 6 4))) (x_if (Nat.ble M 272) (x_if (Nat.ble M 270) 6 (x_if (Nat.ble M 271) 3 11)) (x_if (Nat.ble M 273) 6 (x_if (Nat.ble M 274) 5 6))))) (x_if (Nat.ble M 286) (x_if (Nat.ble M 280) (x_if (Nat.ble M 277) (x_if (Nat.ble M 276) 5 4) (x_if (Nat.ble M 278) 5 (x_if (Nat.ble M 279) 9 4))) (x_if (Nat.ble M 283) (x_if (Nat.ble M 281) 2 (x_if (Nat.ble M 282) 4 5)) (x_if (Nat.ble M 284) 1 (x_if (Nat.ble M 285) 4 6)))) (x_if (Nat.ble M 291) (x_if (Nat.ble M 288) (x_if (Nat.ble M 287) 5 9) (x_if (Nat.ble M 289) 6 (x_if (Nat.ble M 290) 2 4))) (x_if (Nat.ble M 294) (x_if (Nat.ble M 292) 1 (x_if (Nat.ble M 293) 3 1)) (x_if (Nat.ble M 295) 2 (x_if (Nat.ble M 296) 9 2)))))) (x_if (Nat.ble M 318) (x_if (Nat.ble M 307) (x_if (Nat.ble M 302) (x_if (Nat.ble M 299) (x_if (Nat.ble M 298) 4 6) (x_if (Nat.ble M 300) 9 (x_if (Nat.ble M 301) 2 2))) (x_if (Nat.ble M 304) (x_if (Nat.ble M 303) 11 3) (x_if (Nat.ble M 305) 5 (x_if (Nat.ble M 306) 12 7)))) (x_if (Nat.ble M 312) (x_if (Nat.ble M 309) (x_if (Nat.ble M 308) 4 1) (x_if (Nat.ble M 310) 1 (x_if (Nat.ble M 311) 4 4))) (x_if (Nat.ble M 315) (x_if (Nat.ble M 313) 3 (x_if (Nat.ble M 314) 4 3)) (x_if (Nat.ble M 316) 4 (x_if (Nat.ble M 317) 1 3))))) (x_if (Nat.ble M 329) (x_if (Nat.ble M 323) (x_if (Nat.ble M 320) (x_if (Nat.ble M 319) 1 9) (x_if (Nat.ble M 321) 2 (x_if (Nat.ble M 322) 8 3))) (x_if (Nat.ble M 326) (x_if (Nat.ble M 324) 6 (x_if (Nat.ble M 325) 2 3)) (x_if (Nat.ble M 327) 7 (x_if (Nat.ble M 328) 5 5)))) (x_if (Nat.ble M 334) (x_if (Nat.ble M 331) (x_if (Nat.ble M 330) 1 7) (x_if (Nat.ble M 332) 8 (x_if (Nat.ble M 333) 2 2))) (x_if (Nat.ble M 337) (x_if (Nat.ble M 335) 2 (x_if (Nat.ble M 336) 2 3)) (x_if (Nat.ble M 338) 2 (x_if (Nat.ble M 339) 1 1)))))))))
noncomputable def xT : XT := (xY, xWS, xNL)
theorem xg_of {y : MethodName} {b : ByteArray} {L : Nat} {ret : Option FieldType} (h : Cond.code y b L ret ∈ xBIG) : GoodIn xBIG (.code y b L ret :: xBIG) := by
  intro w hw
  have hm : w ∈ xBIG := by
    rcases List.mem_cons.mp hw with rfl | hw
    · exact h
    · exact hw
  exact ⟨hm, good_of_word (List.mem_filter.mp hm).2⟩
theorem xg_0 : GoodIn xBIG (xWS 0) := xg_of xw_1629
theorem xg_1 : GoodIn xBIG (xWS 1) := xg_of xw_1630
theorem xg_2 : GoodIn xBIG (xWS 2) := xg_of xw_1631
theorem xg_3 : GoodIn xBIG (xWS 3) := xg_of xw_1632
theorem xg_4 : GoodIn xBIG (xWS 4) := xg_of xw_1633
theorem xg_5 : GoodIn xBIG (xWS 5) := xg_of xw_1634
theorem xg_6 : GoodIn xBIG (xWS 6) := xg_of xw_1635
theorem xg_7 : GoodIn xBIG (xWS 7) := xg_of xw_1636
theorem xg_8 : GoodIn xBIG (xWS 8) := xg_of xw_1637
theorem xg_9 : GoodIn xBIG (xWS 9) := xg_of xw_1638
theorem xg_10 : GoodIn xBIG (xWS 10) := xg_of xw_1639
theorem xg_11 : GoodIn xBIG (xWS 11) := xg_of xw_1640
theorem xg_12 : GoodIn xBIG (xWS 12) := xg_of xw_1641
theorem xg_13 : GoodIn xBIG (xWS 13) := xg_of xw_1642
theorem xg_14 : GoodIn xBIG (xWS 14) := xg_of xw_1643
theorem xg_15 : GoodIn xBIG (xWS 15) := xg_of xw_1644
theorem xg_16 : GoodIn xBIG (xWS 16) := xg_of xw_1645
theorem xg_17 : GoodIn xBIG (xWS 17) := xg_of xw_1646
theorem xg_18 : GoodIn xBIG (xWS 18) := xg_of xw_1647
theorem xg_19 : GoodIn xBIG (xWS 19) := xg_of xw_1648
theorem xg_20 : GoodIn xBIG (xWS 20) := xg_of xw_1649
theorem xg_21 : GoodIn xBIG (xWS 21) := xg_of xw_1650
theorem xg_22 : GoodIn xBIG (xWS 22) := xg_of xw_1651
theorem xg_23 : GoodIn xBIG (xWS 23) := xg_of xw_1652
theorem xg_24 : GoodIn xBIG (xWS 24) := xg_of xw_1653
theorem xg_25 : GoodIn xBIG (xWS 25) := xg_of xw_1654
theorem xg_26 : GoodIn xBIG (xWS 26) := xg_of xw_1655
theorem xg_27 : GoodIn xBIG (xWS 27) := xg_of xw_1656
theorem xg_28 : GoodIn xBIG (xWS 28) := xg_of xw_1657
theorem xg_29 : GoodIn xBIG (xWS 29) := xg_of xw_1658
theorem xg_30 : GoodIn xBIG (xWS 30) := xg_of xw_1659
theorem xg_31 : GoodIn xBIG (xWS 31) := xg_of xw_1660
theorem xg_32 : GoodIn xBIG (xWS 32) := xg_of xw_1661
theorem xg_33 : GoodIn xBIG (xWS 33) := xg_of xw_1662
theorem xg_34 : GoodIn xBIG (xWS 34) := xg_of xw_1663
theorem xg_35 : GoodIn xBIG (xWS 35) := xg_of xw_1664
theorem xg_36 : GoodIn xBIG (xWS 36) := xg_of xw_1665
theorem xg_37 : GoodIn xBIG (xWS 37) := xg_of xw_1666
theorem xg_38 : GoodIn xBIG (xWS 38) := xg_of xw_1667
theorem xg_39 : GoodIn xBIG (xWS 39) := xg_of xw_1668
theorem xg_40 : GoodIn xBIG (xWS 40) := xg_of xw_1669
theorem xg_41 : GoodIn xBIG (xWS 41) := xg_of xw_1670
theorem xg_42 : GoodIn xBIG (xWS 42) := xg_of xw_1671
theorem xg_43 : GoodIn xBIG (xWS 43) := xg_of xw_1672
theorem xg_44 : GoodIn xBIG (xWS 44) := xg_of xw_1673
theorem xg_45 : GoodIn xBIG (xWS 45) := xg_of xw_1674
theorem xg_46 : GoodIn xBIG (xWS 46) := xg_of xw_1675
theorem xg_47 : GoodIn xBIG (xWS 47) := xg_of xw_1676
theorem xg_48 : GoodIn xBIG (xWS 48) := xg_of xw_1677
theorem xg_49 : GoodIn xBIG (xWS 49) := xg_of xw_1678
theorem xg_50 : GoodIn xBIG (xWS 50) := xg_of xw_1679
theorem xg_51 : GoodIn xBIG (xWS 51) := xg_of xw_1680
theorem xg_52 : GoodIn xBIG (xWS 52) := xg_of xw_1681
theorem xg_53 : GoodIn xBIG (xWS 53) := xg_of xw_1682
theorem xg_54 : GoodIn xBIG (xWS 54) := xg_of xw_1683
theorem xg_55 : GoodIn xBIG (xWS 55) := xg_of xw_1684
theorem xg_56 : GoodIn xBIG (xWS 56) := xg_of xw_1685
theorem xg_57 : GoodIn xBIG (xWS 57) := xg_of xw_1686
theorem xg_58 : GoodIn xBIG (xWS 58) := xg_of xw_1687
theorem xg_59 : GoodIn xBIG (xWS 59) := xg_of xw_1688
theorem xg_60 : GoodIn xBIG (xWS 60) := xg_of xw_1689
theorem xg_61 : GoodIn xBIG (xWS 61) := xg_of xw_1690
theorem xg_62 : GoodIn xBIG (xWS 62) := xg_of xw_1691
theorem xg_63 : GoodIn xBIG (xWS 63) := xg_of xw_1692
theorem xg_64 : GoodIn xBIG (xWS 64) := xg_of xw_1693
theorem xg_65 : GoodIn xBIG (xWS 65) := xg_of xw_1694
theorem xg_66 : GoodIn xBIG (xWS 66) := xg_of xw_1695
theorem xg_67 : GoodIn xBIG (xWS 67) := xg_of xw_1696
theorem xg_68 : GoodIn xBIG (xWS 68) := xg_of xw_1697
theorem xg_69 : GoodIn xBIG (xWS 69) := xg_of xw_1698
theorem xg_70 : GoodIn xBIG (xWS 70) := xg_of xw_1699
theorem xg_71 : GoodIn xBIG (xWS 71) := xg_of xw_1700
theorem xg_72 : GoodIn xBIG (xWS 72) := xg_of xw_1701
theorem xg_73 : GoodIn xBIG (xWS 73) := xg_of xw_1702
theorem xg_74 : GoodIn xBIG (xWS 74) := xg_of xw_1703
theorem xg_75 : GoodIn xBIG (xWS 75) := xg_of xw_1704
theorem xg_76 : GoodIn xBIG (xWS 76) := xg_of xw_1705
theorem xg_77 : GoodIn xBIG (xWS 77) := xg_of xw_1706
theorem xg_78 : GoodIn xBIG (xWS 78) := xg_of xw_1707
theorem xg_79 : GoodIn xBIG (xWS 79) := xg_of xw_1708
theorem xg_80 : GoodIn xBIG (xWS 80) := xg_of xw_1709
theorem xg_81 : GoodIn xBIG (xWS 81) := xg_of xw_1710
theorem xg_82 : GoodIn xBIG (xWS 82) := xg_of xw_1711
theorem xg_83 : GoodIn xBIG (xWS 83) := xg_of xw_1712
theorem xg_84 : GoodIn xBIG (xWS 84) := xg_of xw_1713
theorem xg_85 : GoodIn xBIG (xWS 85) := xg_of xw_1714
theorem xg_86 : GoodIn xBIG (xWS 86) := xg_of xw_1715
theorem xg_87 : GoodIn xBIG (xWS 87) := xg_of xw_1716
theorem xg_88 : GoodIn xBIG (xWS 88) := xg_of xw_1717
theorem xg_89 : GoodIn xBIG (xWS 89) := xg_of xw_1718
theorem xg_90 : GoodIn xBIG (xWS 90) := xg_of xw_1719
theorem xg_91 : GoodIn xBIG (xWS 91) := xg_of xw_1720
theorem xg_92 : GoodIn xBIG (xWS 92) := xg_of xw_1721
theorem xg_93 : GoodIn xBIG (xWS 93) := xg_of xw_1722
theorem xg_94 : GoodIn xBIG (xWS 94) := xg_of xw_1723
theorem xg_95 : GoodIn xBIG (xWS 95) := xg_of xw_1724
theorem xg_96 : GoodIn xBIG (xWS 96) := xg_of xw_1725
theorem xg_97 : GoodIn xBIG (xWS 97) := xg_of xw_1726
theorem xg_98 : GoodIn xBIG (xWS 98) := xg_of xw_1727
theorem xg_99 : GoodIn xBIG (xWS 99) := xg_of xw_1728
theorem xg_100 : GoodIn xBIG (xWS 100) := xg_of xw_1729
theorem xg_101 : GoodIn xBIG (xWS 101) := xg_of xw_1730
theorem xg_102 : GoodIn xBIG (xWS 102) := xg_of xw_1731
theorem xg_103 : GoodIn xBIG (xWS 103) := xg_of xw_1732
theorem xg_104 : GoodIn xBIG (xWS 104) := xg_of xw_1733
theorem xg_105 : GoodIn xBIG (xWS 105) := xg_of xw_1734
theorem xg_106 : GoodIn xBIG (xWS 106) := xg_of xw_1735
theorem xg_107 : GoodIn xBIG (xWS 107) := xg_of xw_1736
theorem xg_108 : GoodIn xBIG (xWS 108) := xg_of xw_1737
theorem xg_109 : GoodIn xBIG (xWS 109) := xg_of xw_1738
theorem xg_110 : GoodIn xBIG (xWS 110) := xg_of xw_1739
theorem xg_111 : GoodIn xBIG (xWS 111) := xg_of xw_1740
theorem xg_112 : GoodIn xBIG (xWS 112) := xg_of xw_1741
theorem xg_113 : GoodIn xBIG (xWS 113) := xg_of xw_1742
theorem xg_114 : GoodIn xBIG (xWS 114) := xg_of xw_1743
theorem xg_115 : GoodIn xBIG (xWS 115) := xg_of xw_1744
theorem xg_116 : GoodIn xBIG (xWS 116) := xg_of xw_1745
theorem xg_117 : GoodIn xBIG (xWS 117) := xg_of xw_1746
theorem xg_118 : GoodIn xBIG (xWS 118) := xg_of xw_1747
theorem xg_119 : GoodIn xBIG (xWS 119) := xg_of xw_1748
theorem xg_120 : GoodIn xBIG (xWS 120) := xg_of xw_1749
theorem xg_121 : GoodIn xBIG (xWS 121) := xg_of xw_1750
theorem xg_122 : GoodIn xBIG (xWS 122) := xg_of xw_1751
theorem xg_123 : GoodIn xBIG (xWS 123) := xg_of xw_1752
theorem xg_124 : GoodIn xBIG (xWS 124) := xg_of xw_1753
theorem xg_125 : GoodIn xBIG (xWS 125) := xg_of xw_1754
theorem xg_126 : GoodIn xBIG (xWS 126) := xg_of xw_1755
theorem xg_127 : GoodIn xBIG (xWS 127) := xg_of xw_1756
theorem xg_128 : GoodIn xBIG (xWS 128) := xg_of xw_1757
theorem xg_129 : GoodIn xBIG (xWS 129) := xg_of xw_1758
theorem xg_130 : GoodIn xBIG (xWS 130) := xg_of xw_1759
theorem xg_131 : GoodIn xBIG (xWS 131) := xg_of xw_1760
theorem xg_132 : GoodIn xBIG (xWS 132) := xg_of xw_1761
theorem xg_133 : GoodIn xBIG (xWS 133) := xg_of xw_1762
theorem xg_134 : GoodIn xBIG (xWS 134) := xg_of xw_1763
theorem xg_135 : GoodIn xBIG (xWS 135) := xg_of xw_1764
theorem xg_136 : GoodIn xBIG (xWS 136) := xg_of xw_1765
theorem xg_137 : GoodIn xBIG (xWS 137) := xg_of xw_1766
theorem xg_138 : GoodIn xBIG (xWS 138) := xg_of xw_1767
theorem xg_139 : GoodIn xBIG (xWS 139) := xg_of xw_1768
theorem xg_140 : GoodIn xBIG (xWS 140) := xg_of xw_1769
theorem xg_141 : GoodIn xBIG (xWS 141) := xg_of xw_1770
theorem xg_142 : GoodIn xBIG (xWS 142) := xg_of xw_1771
theorem xg_143 : GoodIn xBIG (xWS 143) := xg_of xw_1772
theorem xg_144 : GoodIn xBIG (xWS 144) := xg_of xw_1773
theorem xg_145 : GoodIn xBIG (xWS 145) := xg_of xw_1774
theorem xg_146 : GoodIn xBIG (xWS 146) := xg_of xw_1775
theorem xg_147 : GoodIn xBIG (xWS 147) := xg_of xw_1776
theorem xg_148 : GoodIn xBIG (xWS 148) := xg_of xw_1777
theorem xg_149 : GoodIn xBIG (xWS 149) := xg_of xw_1778
theorem xg_150 : GoodIn xBIG (xWS 150) := xg_of xw_1779
theorem xg_151 : GoodIn xBIG (xWS 151) := xg_of xw_1780
theorem xg_152 : GoodIn xBIG (xWS 152) := xg_of xw_1781
theorem xg_153 : GoodIn xBIG (xWS 153) := xg_of xw_1782
theorem xg_154 : GoodIn xBIG (xWS 154) := xg_of xw_1783
theorem xg_155 : GoodIn xBIG (xWS 155) := xg_of xw_1784
theorem xg_156 : GoodIn xBIG (xWS 156) := xg_of xw_1785
theorem xg_157 : GoodIn xBIG (xWS 157) := xg_of xw_1786
theorem xg_158 : GoodIn xBIG (xWS 158) := xg_of xw_1787
theorem xg_159 : GoodIn xBIG (xWS 159) := xg_of xw_1788
theorem xg_160 : GoodIn xBIG (xWS 160) := xg_of xw_1789
theorem xg_161 : GoodIn xBIG (xWS 161) := xg_of xw_1790
theorem xg_162 : GoodIn xBIG (xWS 162) := xg_of xw_1791
theorem xg_163 : GoodIn xBIG (xWS 163) := xg_of xw_1792
theorem xg_164 : GoodIn xBIG (xWS 164) := xg_of xw_1793
theorem xg_165 : GoodIn xBIG (xWS 165) := xg_of xw_1794
theorem xg_166 : GoodIn xBIG (xWS 166) := xg_of xw_1795
theorem xg_167 : GoodIn xBIG (xWS 167) := xg_of xw_1796
theorem xg_168 : GoodIn xBIG (xWS 168) := xg_of xw_1797
theorem xg_169 : GoodIn xBIG (xWS 169) := xg_of xw_1798
theorem xg_170 : GoodIn xBIG (xWS 170) := xg_of xw_1799
theorem xg_171 : GoodIn xBIG (xWS 171) := xg_of xw_1800
theorem xg_172 : GoodIn xBIG (xWS 172) := xg_of xw_1801
theorem xg_173 : GoodIn xBIG (xWS 173) := xg_of xw_1802
theorem xg_174 : GoodIn xBIG (xWS 174) := xg_of xw_1803
theorem xg_175 : GoodIn xBIG (xWS 175) := xg_of xw_1804
theorem xg_176 : GoodIn xBIG (xWS 176) := xg_of xw_1805
theorem xg_177 : GoodIn xBIG (xWS 177) := xg_of xw_1806
theorem xg_178 : GoodIn xBIG (xWS 178) := xg_of xw_1807
theorem xg_179 : GoodIn xBIG (xWS 179) := xg_of xw_1808
theorem xg_180 : GoodIn xBIG (xWS 180) := xg_of xw_1809
theorem xg_181 : GoodIn xBIG (xWS 181) := xg_of xw_1810
theorem xg_182 : GoodIn xBIG (xWS 182) := xg_of xw_1811
theorem xg_183 : GoodIn xBIG (xWS 183) := xg_of xw_1812
theorem xg_184 : GoodIn xBIG (xWS 184) := xg_of xw_1813
theorem xg_185 : GoodIn xBIG (xWS 185) := xg_of xw_1814
theorem xg_186 : GoodIn xBIG (xWS 186) := xg_of xw_1815
theorem xg_187 : GoodIn xBIG (xWS 187) := xg_of xw_1816
theorem xg_188 : GoodIn xBIG (xWS 188) := xg_of xw_1817
theorem xg_189 : GoodIn xBIG (xWS 189) := xg_of xw_1818
theorem xg_190 : GoodIn xBIG (xWS 190) := xg_of xw_1819
theorem xg_191 : GoodIn xBIG (xWS 191) := xg_of xw_1820
theorem xg_192 : GoodIn xBIG (xWS 192) := xg_of xw_1821
theorem xg_193 : GoodIn xBIG (xWS 193) := xg_of xw_1822
theorem xg_194 : GoodIn xBIG (xWS 194) := xg_of xw_1823
theorem xg_195 : GoodIn xBIG (xWS 195) := xg_of xw_1824
theorem xg_196 : GoodIn xBIG (xWS 196) := xg_of xw_1825
theorem xg_197 : GoodIn xBIG (xWS 197) := xg_of xw_1826
theorem xg_198 : GoodIn xBIG (xWS 198) := xg_of xw_1827
theorem xg_199 : GoodIn xBIG (xWS 199) := xg_of xw_1828
theorem xg_200 : GoodIn xBIG (xWS 200) := xg_of xw_1829
theorem xg_201 : GoodIn xBIG (xWS 201) := xg_of xw_1830
theorem xg_202 : GoodIn xBIG (xWS 202) := xg_of xw_1831
theorem xg_203 : GoodIn xBIG (xWS 203) := xg_of xw_1832
theorem xg_204 : GoodIn xBIG (xWS 204) := xg_of xw_1833
theorem xg_205 : GoodIn xBIG (xWS 205) := xg_of xw_1834
theorem xg_206 : GoodIn xBIG (xWS 206) := xg_of xw_1835
theorem xg_207 : GoodIn xBIG (xWS 207) := xg_of xw_1836
theorem xg_208 : GoodIn xBIG (xWS 208) := xg_of xw_1837
theorem xg_209 : GoodIn xBIG (xWS 209) := xg_of xw_1838
theorem xg_210 : GoodIn xBIG (xWS 210) := xg_of xw_1839
theorem xg_211 : GoodIn xBIG (xWS 211) := xg_of xw_1840
theorem xg_212 : GoodIn xBIG (xWS 212) := xg_of xw_1841
theorem xg_213 : GoodIn xBIG (xWS 213) := xg_of xw_1842
theorem xg_214 : GoodIn xBIG (xWS 214) := xg_of xw_1843
theorem xg_215 : GoodIn xBIG (xWS 215) := xg_of xw_1844
theorem xg_216 : GoodIn xBIG (xWS 216) := xg_of xw_1845
theorem xg_217 : GoodIn xBIG (xWS 217) := xg_of xw_1846
theorem xg_218 : GoodIn xBIG (xWS 218) := xg_of xw_1847
theorem xg_219 : GoodIn xBIG (xWS 219) := xg_of xw_1848
theorem xg_220 : GoodIn xBIG (xWS 220) := xg_of xw_1849
theorem xg_221 : GoodIn xBIG (xWS 221) := xg_of xw_1850
theorem xg_222 : GoodIn xBIG (xWS 222) := xg_of xw_1851
theorem xg_223 : GoodIn xBIG (xWS 223) := xg_of xw_1852
theorem xg_224 : GoodIn xBIG (xWS 224) := xg_of xw_1853
theorem xg_225 : GoodIn xBIG (xWS 225) := xg_of xw_1854
theorem xg_226 : GoodIn xBIG (xWS 226) := xg_of xw_1855
theorem xg_227 : GoodIn xBIG (xWS 227) := xg_of xw_1856
theorem xg_228 : GoodIn xBIG (xWS 228) := xg_of xw_1857
theorem xg_229 : GoodIn xBIG (xWS 229) := xg_of xw_1858
theorem xg_230 : GoodIn xBIG (xWS 230) := xg_of xw_1859
theorem xg_231 : GoodIn xBIG (xWS 231) := xg_of xw_1860
theorem xg_232 : GoodIn xBIG (xWS 232) := xg_of xw_1861
theorem xg_233 : GoodIn xBIG (xWS 233) := xg_of xw_1862
theorem xg_234 : GoodIn xBIG (xWS 234) := xg_of xw_1863
theorem xg_235 : GoodIn xBIG (xWS 235) := xg_of xw_1864
theorem xg_236 : GoodIn xBIG (xWS 236) := xg_of xw_1865
theorem xg_237 : GoodIn xBIG (xWS 237) := xg_of xw_1866
theorem xg_238 : GoodIn xBIG (xWS 238) := xg_of xw_1867
theorem xg_239 : GoodIn xBIG (xWS 239) := xg_of xw_1868
theorem xg_240 : GoodIn xBIG (xWS 240) := xg_of xw_1869
theorem xg_241 : GoodIn xBIG (xWS 241) := xg_of xw_1870
theorem xg_242 : GoodIn xBIG (xWS 242) := xg_of xw_1871
theorem xg_243 : GoodIn xBIG (xWS 243) := xg_of xw_1872
theorem xg_244 : GoodIn xBIG (xWS 244) := xg_of xw_1873
theorem xg_245 : GoodIn xBIG (xWS 245) := xg_of xw_1874
theorem xg_246 : GoodIn xBIG (xWS 246) := xg_of xw_1875
theorem xg_247 : GoodIn xBIG (xWS 247) := xg_of xw_1876
theorem xg_248 : GoodIn xBIG (xWS 248) := xg_of xw_1877
theorem xg_249 : GoodIn xBIG (xWS 249) := xg_of xw_1878
theorem xg_250 : GoodIn xBIG (xWS 250) := xg_of xw_1879
theorem xg_251 : GoodIn xBIG (xWS 251) := xg_of xw_1880
theorem xg_252 : GoodIn xBIG (xWS 252) := xg_of xw_1881
theorem xg_253 : GoodIn xBIG (xWS 253) := xg_of xw_1882
theorem xg_254 : GoodIn xBIG (xWS 254) := xg_of xw_1883
theorem xg_255 : GoodIn xBIG (xWS 255) := xg_of xw_1884
theorem xg_256 : GoodIn xBIG (xWS 256) := xg_of xw_1885
theorem xg_257 : GoodIn xBIG (xWS 257) := xg_of xw_1886
theorem xg_258 : GoodIn xBIG (xWS 258) := xg_of xw_1887
theorem xg_259 : GoodIn xBIG (xWS 259) := xg_of xw_1888
theorem xg_260 : GoodIn xBIG (xWS 260) := xg_of xw_1889
theorem xg_261 : GoodIn xBIG (xWS 261) := xg_of xw_1890
theorem xg_262 : GoodIn xBIG (xWS 262) := xg_of xw_1891
theorem xg_263 : GoodIn xBIG (xWS 263) := xg_of xw_1892
theorem xg_264 : GoodIn xBIG (xWS 264) := xg_of xw_1893
theorem xg_265 : GoodIn xBIG (xWS 265) := xg_of xw_1894
theorem xg_266 : GoodIn xBIG (xWS 266) := xg_of xw_1895
theorem xg_267 : GoodIn xBIG (xWS 267) := xg_of xw_1896
theorem xg_268 : GoodIn xBIG (xWS 268) := xg_of xw_1897
theorem xg_269 : GoodIn xBIG (xWS 269) := xg_of xw_1898
theorem xg_270 : GoodIn xBIG (xWS 270) := xg_of xw_1899
theorem xg_271 : GoodIn xBIG (xWS 271) := xg_of xw_1900
theorem xg_272 : GoodIn xBIG (xWS 272) := xg_of xw_1901
theorem xg_273 : GoodIn xBIG (xWS 273) := xg_of xw_1902
theorem xg_274 : GoodIn xBIG (xWS 274) := xg_of xw_1903
theorem xg_275 : GoodIn xBIG (xWS 275) := xg_of xw_1904
theorem xg_276 : GoodIn xBIG (xWS 276) := xg_of xw_1905
theorem xg_277 : GoodIn xBIG (xWS 277) := xg_of xw_1906
theorem xg_278 : GoodIn xBIG (xWS 278) := xg_of xw_1907
theorem xg_279 : GoodIn xBIG (xWS 279) := xg_of xw_1908
theorem xg_280 : GoodIn xBIG (xWS 280) := xg_of xw_1909
theorem xg_281 : GoodIn xBIG (xWS 281) := xg_of xw_1910
theorem xg_282 : GoodIn xBIG (xWS 282) := xg_of xw_1911
theorem xg_283 : GoodIn xBIG (xWS 283) := xg_of xw_1912
theorem xg_284 : GoodIn xBIG (xWS 284) := xg_of xw_1913
theorem xg_285 : GoodIn xBIG (xWS 285) := xg_of xw_1914
theorem xg_286 : GoodIn xBIG (xWS 286) := xg_of xw_1915
theorem xg_287 : GoodIn xBIG (xWS 287) := xg_of xw_1916
theorem xg_288 : GoodIn xBIG (xWS 288) := xg_of xw_1917
theorem xg_289 : GoodIn xBIG (xWS 289) := xg_of xw_1918
theorem xg_290 : GoodIn xBIG (xWS 290) := xg_of xw_1919
theorem xg_291 : GoodIn xBIG (xWS 291) := xg_of xw_1920
theorem xg_292 : GoodIn xBIG (xWS 292) := xg_of xw_1921
theorem xg_293 : GoodIn xBIG (xWS 293) := xg_of xw_1922
theorem xg_294 : GoodIn xBIG (xWS 294) := xg_of xw_1923
theorem xg_295 : GoodIn xBIG (xWS 295) := xg_of xw_1924
theorem xg_296 : GoodIn xBIG (xWS 296) := xg_of xw_1925
theorem xg_297 : GoodIn xBIG (xWS 297) := xg_of xw_1926
theorem xg_298 : GoodIn xBIG (xWS 298) := xg_of xw_1927
theorem xg_299 : GoodIn xBIG (xWS 299) := xg_of xw_1928
theorem xg_300 : GoodIn xBIG (xWS 300) := xg_of xw_1929
theorem xg_301 : GoodIn xBIG (xWS 301) := xg_of xw_1930
theorem xg_302 : GoodIn xBIG (xWS 302) := xg_of xw_1931
theorem xg_303 : GoodIn xBIG (xWS 303) := xg_of xw_1932
theorem xg_304 : GoodIn xBIG (xWS 304) := xg_of xw_1933
theorem xg_305 : GoodIn xBIG (xWS 305) := xg_of xw_1934
theorem xg_306 : GoodIn xBIG (xWS 306) := xg_of xw_1935
theorem xg_307 : GoodIn xBIG (xWS 307) := xg_of xw_1936
theorem xg_308 : GoodIn xBIG (xWS 308) := xg_of xw_1937
theorem xg_309 : GoodIn xBIG (xWS 309) := xg_of xw_1938
theorem xg_310 : GoodIn xBIG (xWS 310) := xg_of xw_1939
theorem xg_311 : GoodIn xBIG (xWS 311) := xg_of xw_1940
theorem xg_312 : GoodIn xBIG (xWS 312) := xg_of xw_1941
theorem xg_313 : GoodIn xBIG (xWS 313) := xg_of xw_1942
theorem xg_314 : GoodIn xBIG (xWS 314) := xg_of xw_1943
theorem xg_315 : GoodIn xBIG (xWS 315) := xg_of xw_1944
theorem xg_316 : GoodIn xBIG (xWS 316) := xg_of xw_1945
theorem xg_317 : GoodIn xBIG (xWS 317) := xg_of xw_1946
theorem xg_318 : GoodIn xBIG (xWS 318) := xg_of xw_1947
theorem xg_319 : GoodIn xBIG (xWS 319) := xg_of xw_1948
theorem xg_320 : GoodIn xBIG (xWS 320) := xg_of xw_1949
theorem xg_321 : GoodIn xBIG (xWS 321) := xg_of xw_1950
theorem xg_322 : GoodIn xBIG (xWS 322) := xg_of xw_1951
theorem xg_323 : GoodIn xBIG (xWS 323) := xg_of xw_1952
theorem xg_324 : GoodIn xBIG (xWS 324) := xg_of xw_1953
theorem xg_325 : GoodIn xBIG (xWS 325) := xg_of xw_1954
theorem xg_326 : GoodIn xBIG (xWS 326) := xg_of xw_1955
theorem xg_327 : GoodIn xBIG (xWS 327) := xg_of xw_1956
theorem xg_328 : GoodIn xBIG (xWS 328) := xg_of xw_1957
theorem xg_329 : GoodIn xBIG (xWS 329) := xg_of xw_1958
theorem xg_330 : GoodIn xBIG (xWS 330) := xg_of xw_1959
theorem xg_331 : GoodIn xBIG (xWS 331) := xg_of xw_1960
theorem xg_332 : GoodIn xBIG (xWS 332) := xg_of xw_1961
theorem xg_333 : GoodIn xBIG (xWS 333) := xg_of xw_1962
theorem xg_334 : GoodIn xBIG (xWS 334) := xg_of xw_1963
theorem xg_335 : GoodIn xBIG (xWS 335) := xg_of xw_1964
theorem xg_336 : GoodIn xBIG (xWS 336) := xg_of xw_1965
theorem xg_337 : GoodIn xBIG (xWS 337) := xg_of xw_1966
theorem xg_338 : GoodIn xBIG (xWS 338) := xg_of xw_1967
theorem xg_339 : GoodIn xBIG (xWS 339) := xg_of xw_1968
theorem xg_340 : GoodIn xBIG (xWS 340) := xg_of xw_1969
def xNl : List (String × Nat × MethodName × String) := [("ExpressHouse", 15, ⟨"ExpressHouse$Tokens", "<init>", "()V"⟩, "ExpressHouse"), ("ExpressHouse", 24, ⟨"ExpressHouse$Schema", "<init>", "()V"⟩, "ExpressHouse"), ("ExpressHouse", 90, ⟨"ExpressHouse$Value", "<init>", "(IJ)V"⟩, "ExpressHouse"), ("ExpressHouse$Population", 9, ⟨"ExpressHouse$Value", "<init>", "(IJ)V"⟩, "ExpressHouse"), ("ExpressHouse$SchemaReader", 11, ⟨"ExpressHouse$Schema", "<init>", "()V"⟩, "ExpressHouse"), ("ExpressHouse", 293, ⟨"ExpressHouse$Value", "<init>", "(IIII[J)V"⟩, "ExpressHouse"), ("ExpressHouse$Population", 122, ⟨"ExpressHouse$Value", "<init>", "(IIII[J)V"⟩, "ExpressHouse"), ("ExpressHouse$Judge", 125, ⟨"ExpressHouse$Value", "<init>", "(IJ)V"⟩, "ExpressHouse"), ("ExpressHouse$Machine", 144, ⟨"ExpressHouse$Value", "<init>", "(IJ)V"⟩, "ExpressHouse"), ("ExpressHouse$SchemaReader", 204, ⟨"ExpressHouse$Expressions", "exp", "()V"⟩, "ExpressHouse"), ("ExpressHouse$Machine", 228, ⟨"ExpressHouse$Value", "<init>", "(IIII[J)V"⟩, "ExpressHouse"), ("ExpressHouse$Operators", 26, ⟨"ExpressHouse$Value", "<init>", "(IJ)V"⟩, "ExpressHouse"), ("ExpressHouse$Operators", 88, ⟨"ExpressHouse$Value", "<init>", "(IIII[J)V"⟩, "ExpressHouse"), ("ExpressHouse$FileReader", 197, ⟨"ExpressHouse$Value", "<init>", "(IJ)V"⟩, "ExpressHouse"), ("ExpressHouse$FileReader", 225, ⟨"ExpressHouse$Value", "<init>", "(IIII[J)V"⟩, "ExpressHouse")]
def xSl : List (String × Nat × String × Nat) := [("ExpressHouse$Tokens", 11, "schema type enum select entity abstract under over oneof andor optional derive inverse for unique where function var if then else repeat to by while escape skip return rule end integer real logical array list bag set of and or xor not in div mod query true false unknown self", 0), ("ExpressHouse$Schema", 11, "abs floor ceil rint sign sizeof lowindex highindex exists usedin odd copysign min max nvl", 1)]
end AMNAMES
