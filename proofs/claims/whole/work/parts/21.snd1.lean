/-! SOUNDNESS 1: the words behind the tables -/
def tbL : Nat → List Nat := fun c => match c with
  | 0 => [30091, 30093, 30095, 30097]
  | 1 => [10179, 10181, 10183, 10185, 10187, 10189, 10191]
  | 2 => [30184, 30186, 30188, 30190, 30192]
  | 3 => [10223, 10225, 10227, 10229, 10231, 10233, 10235, 10237, 10239, 20001, 20003, 20005, 20007, 20009, 20011, 20013]
  | 4 => [10131, 10133, 10135, 10137, 10139, 10141, 10143, 10145, 10147, 10149, 10151, 10153]
  | 5 => [10062]
  | 6 => [10045, 10047, 10049, 10051]
  | 7 => [30056, 30058, 30060, 30062]
  | 8 => [10086, 10088, 10090, 10092]
  | 9 => [20024, 20026]
  | 10 => [20034, 20036, 20038]
  | 11 => [40136, 40138, 40140, 40142, 40144, 40146, 40148, 40150, 40152, 40154, 40156, 40158, 40160, 40162, 40164, 40166, 40168, 40170, 40172, 40174, 40176, 40178, 40180, 40182, 40184, 40186, 40188, 40190, 40192, 40194, 40196, 40198, 40200, 40202, 40204, 40206, 40208, 40210, 40212, 40214, 40216, 40218, 40220, 40222, 40224, 40226, 40228, 40230, 40232]
  | _ => []
/-- places of the words: initialized, instantiable -/
def tbI : List (Nat × Nat) := [(10013, 30074), (10007, 10156), (10014, 30172), (10002, 10024), (10006, 10095), (10004, 10056), (10003, 10032), (10012, 30039), (10005, 10068), (10008, 20017), (10001, 10016), (10009, 40081), (10000, 0)]
def wF (own idx : Nat) (f : Nat × Nat × Bool) : Cond := match f.2.2 with
  | true => .fieldLinkNest (cname own) idx (cname f.1) (ftab f.1 f.2.1).2.1 (ftab f.1 f.2.1).2.2.1 "MarkedSteps"
  | false => .fieldLink (cname own) idx (cname f.1) (ftab f.1 f.2.1).2.1 (ftab f.1 f.2.1).2.2.1
def xname (e : Nat) : String := match e with
  | 2 => "LOOKS_AT"
  | _ => "MAKES_A"
def wSt (own idx : Nat) (f : Nat × Bool) : Cond := match f.2 with
  | true => .fieldLinkNest (cname own) idx "MarkedSteps" (xname f.1) "[I" "MarkedSteps"
  | false => .fieldLink (cname own) idx "MarkedSteps" (xname f.1) "[I"
def yOf (t : Nat) : MethodName := match t with
  | 9000 => objectInit
  | 9001 => Lib.Math.max.name
  | 9002 => arraycopyName
  | t => my t
def wM (own idx : Nat) (t : Nat × Bool) : Cond := match t.2 with
  | true => .methodLinkNest (cname own) idx (yOf t.1) "MarkedSteps"
  | false => .methodLink (cname own) idx (yOf t.1)
def seg (k : Nat) : List Cond := match k with
  | 0 => k2_sels lw_privs
  | 1 => tables_1_1
  | 2 => tables_1_2
  | 3 => tables_1_3
  | 4 => tables_1_4
  | 5 => tables_1_5
  | 6 => tables_1_6
  | _ => []
theorem seg_in (k : Nat) : ∀ w ∈ seg k, w ∈ lw_tbl := by
  intro w h
  unfold seg at h
  unfold lw_tbl tables_1
  split at h <;> simp_all
def at_ (p : Nat) (x : Cond) : Bool := decide ((seg (p / 10000))[p % 10000]? = some x)
theorem at_mem {p : Nat} {x : Cond} (h : at_ p x = true) : x ∈ lw_tbl := seg_in _ _ (List.mem_of_getElem? (of_decide_eq_true h))
def mpos (m : Nat) : Nat × Nat × Nat := (mrow m).2.2.2.2.2.2.2.2.2
/-- all that the calls of a method need -/
def okm (t : Nat) : Bool := decide (mcl t < 13) && at_ (mpos t).2.1 (match mkd t == 1 with
    | true => .static (my t)
    | false => .instanceMethod (my t)) && (!(mkd t == 0) || at_ (mpos t).2.2 (.selects (cname (mcl t)) (my t) (my t))) && decide ((my t).cls = cname (mcl t)) && decide ((my t).cls ≠ "java/lang/invoke/MethodHandle") && decide ((my t).cls ≠ "java/lang/invoke/VarHandle") && plainName (my t).cls
  && decide ((parseMethodDescriptor (my t).desc).map (fun d => d.parameters.length + (match mkd t == 1 with
    | true => 0
    | false => 1)) = some (mnp t)) && (!(mkd t == 2) || (decide ((my t).name = "<init>") && decide (mret t = none)))
  && decide (mkd t ≤ 2) && decide (1 ≤ mrf t) && decide (40 ≤ mrl t) && (match mlong t with
    | true => mnp t == 2 && mxl t == 3 && mkd t == 0
    | false => decide (mnp t ≤ mxl t))
def ckF : Bool := (List.range 13).all fun own => (tbF own).all fun e => at_ e.2.2 (wF own e.1 e.2.1) && decide (e.2.1.1 < 12) && decide (e.2.1.2.1 < fnum e.2.1.1) && decide ((ftab e.2.1.1 e.2.1.2.1).1 = cname e.2.1.1)
def ckS : Bool := (List.range 13).all fun own => (tbS own).all fun e => at_ e.2.2 (wSt own e.1 e.2.1) && (e.2.1.1 == 2 || e.2.1.1 == 3)
def okl (t : Nat) : Bool := decide (t / 100 < 12) && decide (t % 100 < (tbY (t / 100)).length)
def ckM : Bool := (List.range 13).all fun own => (tbM own).all fun e => at_ e.2.2 (wM own e.1 e.2.1) && (match decide (e.2.1.1 < 9000) with
    | true => okl e.2.1.1
    | false => true)
set_option maxRecDepth 20000 in
theorem cw0 : (seg 3)[77]? = some (Cond.code (my 0) (mb 0) (mxl 0) (mret 0)) := rfl
set_option maxRecDepth 20000 in
theorem cw1 : (seg 3)[149]? = some (Cond.code (my 1) (mb 1) (mxl 1) (mret 1)) := rfl
set_option maxRecDepth 20000 in
theorem cw2 : (seg 4)[27]? = some (Cond.code (my 2) (mb 2) (mxl 2) (mret 2)) := rfl
set_option maxRecDepth 20000 in
theorem cw3 : (seg 3)[235]? = some (Cond.code (my 3) (mb 3) (mxl 3) (mret 3)) := rfl
set_option maxRecDepth 20000 in
theorem cw4 : (seg 3)[239]? = some (Cond.code (my 4) (mb 4) (mxl 4) (mret 4)) := rfl
set_option maxRecDepth 20000 in
theorem cw100 : (seg 1)[159]? = some (Cond.code (my 100) (mb 100) (mxl 100) (mret 100)) := rfl
set_option maxRecDepth 20000 in
theorem cw101 : (seg 2)[191]? = some (Cond.code (my 101) (mb 101) (mxl 101) (mret 101)) := rfl
set_option maxRecDepth 20000 in
theorem cw102 : (seg 2)[229]? = some (Cond.code (my 102) (mb 102) (mxl 102) (mret 102)) := rfl
set_option maxRecDepth 20000 in
theorem cw103 : (seg 2)[212]? = some (Cond.code (my 103) (mb 103) (mxl 103) (mret 103)) := rfl
set_option maxRecDepth 20000 in
theorem cw104 : (seg 3)[215]? = some (Cond.code (my 104) (mb 104) (mxl 104) (mret 104)) := rfl
set_option maxRecDepth 20000 in
theorem cw105 : (seg 2)[224]? = some (Cond.code (my 105) (mb 105) (mxl 105) (mret 105)) := rfl
set_option maxRecDepth 20000 in
theorem cw200 : (seg 3)[175]? = some (Cond.code (my 200) (mb 200) (mxl 200) (mret 200)) := rfl
set_option maxRecDepth 20000 in
theorem cw300 : (seg 1)[27]? = some (Cond.code (my 300) (mb 300) (mxl 300) (mret 300)) := rfl
set_option maxRecDepth 20000 in
theorem cw301 : (seg 2)[59]? = some (Cond.code (my 301) (mb 301) (mxl 301) (mret 301)) := rfl
set_option maxRecDepth 20000 in
theorem cw302 : (seg 2)[51]? = some (Cond.code (my 302) (mb 302) (mxl 302) (mret 302)) := rfl
set_option maxRecDepth 20000 in
theorem cw303 : (seg 2)[208]? = some (Cond.code (my 303) (mb 303) (mxl 303) (mret 303)) := rfl
set_option maxRecDepth 20000 in
theorem cw304 : (seg 4)[66]? = some (Cond.code (my 304) (mb 304) (mxl 304) (mret 304)) := rfl
set_option maxRecDepth 20000 in
theorem cw305 : (seg 2)[167]? = some (Cond.code (my 305) (mb 305) (mxl 305) (mret 305)) := rfl
set_option maxRecDepth 20000 in
theorem cw306 : (seg 2)[239]? = some (Cond.code (my 306) (mb 306) (mxl 306) (mret 306)) := rfl
set_option maxRecDepth 20000 in
theorem cw307 : (seg 3)[3]? = some (Cond.code (my 307) (mb 307) (mxl 307) (mret 307)) := rfl
set_option maxRecDepth 20000 in
theorem cw308 : (seg 2)[179]? = some (Cond.code (my 308) (mb 308) (mxl 308) (mret 308)) := rfl
set_option maxRecDepth 20000 in
theorem cw309 : (seg 2)[216]? = some (Cond.code (my 309) (mb 309) (mxl 309) (mret 309)) := rfl
set_option maxRecDepth 20000 in
theorem cw310 : (seg 2)[204]? = some (Cond.code (my 310) (mb 310) (mxl 310) (mret 310)) := rfl
set_option maxRecDepth 20000 in
theorem cw311 : (seg 4)[6]? = some (Cond.code (my 311) (mb 311) (mxl 311) (mret 311)) := rfl
set_option maxRecDepth 20000 in
theorem cw312 : (seg 4)[15]? = some (Cond.code (my 312) (mb 312) (mxl 312) (mret 312)) := rfl
set_option maxRecDepth 20000 in
theorem cw313 : (seg 2)[234]? = some (Cond.code (my 313) (mb 313) (mxl 313) (mret 313)) := rfl
set_option maxRecDepth 20000 in
theorem cw314 : (seg 2)[200]? = some (Cond.code (my 314) (mb 314) (mxl 314) (mret 314)) := rfl
set_option maxRecDepth 20000 in
theorem cw315 : (seg 3)[7]? = some (Cond.code (my 315) (mb 315) (mxl 315) (mret 315)) := rfl
set_option maxRecDepth 20000 in
theorem cw316 : (seg 3)[222]? = some (Cond.code (my 316) (mb 316) (mxl 316) (mret 316)) := rfl
set_option maxRecDepth 20000 in
theorem cw317 : (seg 4)[2]? = some (Cond.code (my 317) (mb 317) (mxl 317) (mret 317)) := rfl
set_option maxRecDepth 20000 in
theorem cw318 : (seg 3)[17]? = some (Cond.code (my 318) (mb 318) (mxl 318) (mret 318)) := rfl
set_option maxRecDepth 20000 in
theorem cw319 : (seg 3)[21]? = some (Cond.code (my 319) (mb 319) (mxl 319) (mret 319)) := rfl
set_option maxRecDepth 20000 in
theorem cw320 : (seg 3)[33]? = some (Cond.code (my 320) (mb 320) (mxl 320) (mret 320)) := rfl
set_option maxRecDepth 20000 in
theorem cw321 : (seg 3)[72]? = some (Cond.code (my 321) (mb 321) (mxl 321) (mret 321)) := rfl
set_option maxRecDepth 20000 in
theorem cw322 : (seg 3)[106]? = some (Cond.code (my 322) (mb 322) (mxl 322) (mret 322)) := rfl
set_option maxRecDepth 20000 in
theorem cw323 : (seg 3)[132]? = some (Cond.code (my 323) (mb 323) (mxl 323) (mret 323)) := rfl
set_option maxRecDepth 20000 in
theorem cw324 : (seg 3)[142]? = some (Cond.code (my 324) (mb 324) (mxl 324) (mret 324)) := rfl
set_option maxRecDepth 20000 in
theorem cw325 : (seg 3)[145]? = some (Cond.code (my 325) (mb 325) (mxl 325) (mret 325)) := rfl
set_option maxRecDepth 20000 in
theorem cw326 : (seg 3)[152]? = some (Cond.code (my 326) (mb 326) (mxl 326) (mret 326)) := rfl
set_option maxRecDepth 20000 in
theorem cw327 : (seg 3)[162]? = some (Cond.code (my 327) (mb 327) (mxl 327) (mret 327)) := rfl
set_option maxRecDepth 20000 in
theorem cw328 : (seg 3)[198]? = some (Cond.code (my 328) (mb 328) (mxl 328) (mret 328)) := rfl
set_option maxRecDepth 20000 in
theorem cw329 : (seg 3)[206]? = some (Cond.code (my 329) (mb 329) (mxl 329) (mret 329)) := rfl
set_option maxRecDepth 20000 in
theorem cw330 : (seg 3)[210]? = some (Cond.code (my 330) (mb 330) (mxl 330) (mret 330)) := rfl
set_option maxRecDepth 20000 in
theorem cw331 : (seg 3)[219]? = some (Cond.code (my 331) (mb 331) (mxl 331) (mret 331)) := rfl
set_option maxRecDepth 20000 in
theorem cw332 : (seg 3)[227]? = some (Cond.code (my 332) (mb 332) (mxl 332) (mret 332)) := rfl
set_option maxRecDepth 20000 in
theorem cw333 : (seg 3)[231]? = some (Cond.code (my 333) (mb 333) (mxl 333) (mret 333)) := rfl
set_option maxRecDepth 20000 in
theorem cw400 : (seg 1)[98]? = some (Cond.code (my 400) (mb 400) (mxl 400) (mret 400)) := rfl
set_option maxRecDepth 20000 in
theorem cw401 : (seg 2)[73]? = some (Cond.code (my 401) (mb 401) (mxl 401) (mret 401)) := rfl
set_option maxRecDepth 20000 in
theorem cw402 : (seg 2)[81]? = some (Cond.code (my 402) (mb 402) (mxl 402) (mret 402)) := rfl
set_option maxRecDepth 20000 in
theorem cw403 : (seg 2)[118]? = some (Cond.code (my 403) (mb 403) (mxl 403) (mret 403)) := rfl
set_option maxRecDepth 20000 in
theorem cw404 : (seg 4)[10]? = some (Cond.code (my 404) (mb 404) (mxl 404) (mret 404)) := rfl
set_option maxRecDepth 20000 in
theorem cw500 : (seg 1)[59]? = some (Cond.code (my 500) (mb 500) (mxl 500) (mret 500)) := rfl
set_option maxRecDepth 20000 in
theorem cw501 : (seg 3)[166]? = some (Cond.code (my 501) (mb 501) (mxl 501) (mret 501)) := rfl
set_option maxRecDepth 20000 in
theorem cw502 : (seg 3)[202]? = some (Cond.code (my 502) (mb 502) (mxl 502) (mret 502)) := rfl
set_option maxRecDepth 20000 in
theorem cw503 : (seg 3)[170]? = some (Cond.code (my 503) (mb 503) (mxl 503) (mret 503)) := rfl
set_option maxRecDepth 20000 in
theorem cw504 : (seg 2)[220]? = some (Cond.code (my 504) (mb 504) (mxl 504) (mret 504)) := rfl
set_option maxRecDepth 20000 in
theorem cw600 : (seg 1)[35]? = some (Cond.code (my 600) (mb 600) (mxl 600) (mret 600)) := rfl
set_option maxRecDepth 20000 in
theorem cw601 : (seg 2)[171]? = some (Cond.code (my 601) (mb 601) (mxl 601) (mret 601)) := rfl
set_option maxRecDepth 20000 in
theorem cw602 : (seg 2)[187]? = some (Cond.code (my 602) (mb 602) (mxl 602) (mret 602)) := rfl
set_option maxRecDepth 20000 in
theorem cw603 : (seg 2)[183]? = some (Cond.code (my 603) (mb 603) (mxl 603) (mret 603)) := rfl
set_option maxRecDepth 20000 in
theorem cw604 : (seg 3)[37]? = some (Cond.code (my 604) (mb 604) (mxl 604) (mret 604)) := rfl
set_option maxRecDepth 20000 in
theorem cw700 : (seg 3)[42]? = some (Cond.code (my 700) (mb 700) (mxl 700) (mret 700)) := rfl
set_option maxRecDepth 20000 in
theorem cw701 : (seg 3)[120]? = some (Cond.code (my 701) (mb 701) (mxl 701) (mret 701)) := rfl
set_option maxRecDepth 20000 in
theorem cw702 : (seg 3)[128]? = some (Cond.code (my 702) (mb 702) (mxl 702) (mret 702)) := rfl
set_option maxRecDepth 20000 in
theorem cw703 : (seg 3)[111]? = some (Cond.code (my 703) (mb 703) (mxl 703) (mret 703)) := rfl
set_option maxRecDepth 20000 in
theorem cw704 : (seg 3)[124]? = some (Cond.code (my 704) (mb 704) (mxl 704) (mret 704)) := rfl
set_option maxRecDepth 20000 in
theorem cw705 : (seg 3)[136]? = some (Cond.code (my 705) (mb 705) (mxl 705) (mret 705)) := rfl
set_option maxRecDepth 20000 in
theorem cw800 : (seg 1)[71]? = some (Cond.code (my 800) (mb 800) (mxl 800) (mret 800)) := rfl
set_option maxRecDepth 20000 in
theorem cw801 : (seg 2)[146]? = some (Cond.code (my 801) (mb 801) (mxl 801) (mret 801)) := rfl
set_option maxRecDepth 20000 in
theorem cw802 : (seg 2)[150]? = some (Cond.code (my 802) (mb 802) (mxl 802) (mret 802)) := rfl
set_option maxRecDepth 20000 in
theorem cw803 : (seg 3)[103]? = some (Cond.code (my 803) (mb 803) (mxl 803) (mret 803)) := rfl
set_option maxRecDepth 20000 in
theorem cw804 : (seg 3)[68]? = some (Cond.code (my 804) (mb 804) (mxl 804) (mret 804)) := rfl
set_option maxRecDepth 20000 in
theorem cw805 : (seg 2)[155]? = some (Cond.code (my 805) (mb 805) (mxl 805) (mret 805)) := rfl
set_option maxRecDepth 20000 in
theorem cw806 : (seg 3)[116]? = some (Cond.code (my 806) (mb 806) (mxl 806) (mret 806)) := rfl
set_option maxRecDepth 20000 in
theorem cw807 : (seg 3)[156]? = some (Cond.code (my 807) (mb 807) (mxl 807) (mret 807)) := rfl
set_option maxRecDepth 20000 in
theorem cw808 : (seg 3)[13]? = some (Cond.code (my 808) (mb 808) (mxl 808) (mret 808)) := rfl
set_option maxRecDepth 20000 in
theorem cw809 : (seg 4)[23]? = some (Cond.code (my 809) (mb 809) (mxl 809) (mret 809)) := rfl
set_option maxRecDepth 20000 in
theorem cw810 : (seg 3)[29]? = some (Cond.code (my 810) (mb 810) (mxl 810) (mret 810)) := rfl
set_option maxRecDepth 20000 in
theorem cw811 : (seg 3)[25]? = some (Cond.code (my 811) (mb 811) (mxl 811) (mret 811)) := rfl
set_option maxRecDepth 20000 in
theorem cw900 : (seg 2)[20]? = some (Cond.code (my 900) (mb 900) (mxl 900) (mret 900)) := rfl
set_option maxRecDepth 20000 in
theorem cw901 : (seg 2)[97]? = some (Cond.code (my 901) (mb 901) (mxl 901) (mret 901)) := rfl
set_option maxRecDepth 20000 in
theorem cw902 : (seg 2)[105]? = some (Cond.code (my 902) (mb 902) (mxl 902) (mret 902)) := rfl
set_option maxRecDepth 20000 in
theorem cw903 : (seg 2)[109]? = some (Cond.code (my 903) (mb 903) (mxl 903) (mret 903)) := rfl
set_option maxRecDepth 20000 in
theorem cw904 : (seg 2)[114]? = some (Cond.code (my 904) (mb 904) (mxl 904) (mret 904)) := rfl
set_option maxRecDepth 20000 in
theorem cw905 : (seg 2)[101]? = some (Cond.code (my 905) (mb 905) (mxl 905) (mret 905)) := rfl
set_option maxRecDepth 20000 in
theorem cw906 : (seg 2)[121]? = some (Cond.code (my 906) (mb 906) (mxl 906) (mret 906)) := rfl
set_option maxRecDepth 20000 in
theorem cw907 : (seg 2)[125]? = some (Cond.code (my 907) (mb 907) (mxl 907) (mret 907)) := rfl
set_option maxRecDepth 20000 in
theorem cw1000 : (seg 1)[19]? = some (Cond.code (my 1000) (mb 1000) (mxl 1000) (mret 1000)) := rfl
set_option maxRecDepth 20000 in
theorem cw1001 : (seg 2)[44]? = some (Cond.code (my 1001) (mb 1001) (mxl 1001) (mret 1001)) := rfl
set_option maxRecDepth 20000 in
theorem cw1002 : (seg 2)[55]? = some (Cond.code (my 1002) (mb 1002) (mxl 1002) (mret 1002)) := rfl
set_option maxRecDepth 20000 in
theorem cw1003 : (seg 2)[77]? = some (Cond.code (my 1003) (mb 1003) (mxl 1003) (mret 1003)) := rfl
set_option maxRecDepth 20000 in
theorem cw1004 : (seg 2)[85]? = some (Cond.code (my 1004) (mb 1004) (mxl 1004) (mret 1004)) := rfl
set_option maxRecDepth 20000 in
theorem cw1005 : (seg 2)[89]? = some (Cond.code (my 1005) (mb 1005) (mxl 1005) (mret 1005)) := rfl
set_option maxRecDepth 20000 in
theorem cw1006 : (seg 2)[93]? = some (Cond.code (my 1006) (mb 1006) (mxl 1006) (mret 1006)) := rfl
set_option maxRecDepth 20000 in
theorem cw1007 : (seg 2)[130]? = some (Cond.code (my 1007) (mb 1007) (mxl 1007) (mret 1007)) := rfl
set_option maxRecDepth 20000 in
theorem cw1008 : (seg 2)[134]? = some (Cond.code (my 1008) (mb 1008) (mxl 1008) (mret 1008)) := rfl
set_option maxRecDepth 20000 in
theorem cw1009 : (seg 2)[138]? = some (Cond.code (my 1009) (mb 1009) (mxl 1009) (mret 1009)) := rfl
set_option maxRecDepth 20000 in
theorem cw1010 : (seg 2)[142]? = some (Cond.code (my 1010) (mb 1010) (mxl 1010) (mret 1010)) := rfl
set_option maxRecDepth 20000 in
theorem cw1011 : (seg 2)[159]? = some (Cond.code (my 1011) (mb 1011) (mxl 1011) (mret 1011)) := rfl
set_option maxRecDepth 20000 in
theorem cw1012 : (seg 4)[19]? = some (Cond.code (my 1012) (mb 1012) (mxl 1012) (mret 1012)) := rfl
set_option maxRecDepth 20000 in
theorem cw1013 : (seg 4)[31]? = some (Cond.code (my 1013) (mb 1013) (mxl 1013) (mret 1013)) := rfl
set_option maxRecDepth 20000 in
theorem cw1014 : (seg 4)[37]? = some (Cond.code (my 1014) (mb 1014) (mxl 1014) (mret 1014)) := rfl
set_option maxRecDepth 20000 in
theorem cw1015 : (seg 4)[41]? = some (Cond.code (my 1015) (mb 1015) (mxl 1015) (mret 1015)) := rfl
set_option maxRecDepth 20000 in
theorem cw1016 : (seg 4)[45]? = some (Cond.code (my 1016) (mb 1016) (mxl 1016) (mret 1016)) := rfl
set_option maxRecDepth 20000 in
theorem cw1017 : (seg 4)[49]? = some (Cond.code (my 1017) (mb 1017) (mxl 1017) (mret 1017)) := rfl
set_option maxRecDepth 20000 in
theorem cw1018 : (seg 4)[53]? = some (Cond.code (my 1018) (mb 1018) (mxl 1018) (mret 1018)) := rfl
set_option maxRecDepth 20000 in
theorem cw1019 : (seg 4)[57]? = some (Cond.code (my 1019) (mb 1019) (mxl 1019) (mret 1019)) := rfl
set_option maxRecDepth 20000 in
theorem cw1020 : (seg 4)[61]? = some (Cond.code (my 1020) (mb 1020) (mxl 1020) (mret 1020)) := rfl
set_option maxRecDepth 20000 in
theorem cw1021 : (seg 4)[70]? = some (Cond.code (my 1021) (mb 1021) (mxl 1021) (mret 1021)) := rfl
set_option maxRecDepth 20000 in
theorem cw1022 : (seg 4)[74]? = some (Cond.code (my 1022) (mb 1022) (mxl 1022) (mret 1022)) := rfl
set_option maxRecDepth 20000 in
theorem cw1023 : (seg 4)[79]? = some (Cond.code (my 1023) (mb 1023) (mxl 1023) (mret 1023)) := rfl
set_option maxRecDepth 20000 in
theorem cw1024 : (seg 2)[163]? = some (Cond.code (my 1024) (mb 1024) (mxl 1024) (mret 1024)) := rfl
set_option maxRecDepth 20000 in
theorem cw1025 : (seg 2)[47]? = some (Cond.code (my 1025) (mb 1025) (mxl 1025) (mret 1025)) := rfl
set_option maxRecDepth 20000 in
theorem cw1026 : (seg 2)[62]? = some (Cond.code (my 1026) (mb 1026) (mxl 1026) (mret 1026)) := rfl
set_option maxRecDepth 20000 in
theorem cw1027 : (seg 2)[69]? = some (Cond.code (my 1027) (mb 1027) (mxl 1027) (mret 1027)) := rfl
set_option maxRecDepth 20000 in
theorem cw1100 : (seg 4)[84]? = some (Cond.code (my 1100) (mb 1100) (mxl 1100) (mret 1100)) := rfl
set_option maxRecDepth 20000 in
theorem cw1101 : (seg 5)[1]? = some (Cond.code (my 1101) (mb 1101) (mxl 1101) (mret 1101)) := rfl
set_option maxRecDepth 20000 in
theorem cw1102 : (seg 5)[9]? = some (Cond.code (my 1102) (mb 1102) (mxl 1102) (mret 1102)) := rfl
set_option maxRecDepth 20000 in
theorem cw1103 : (seg 4)[238]? = some (Cond.code (my 1103) (mb 1103) (mxl 1103) (mret 1103)) := rfl
set_option maxRecDepth 20000 in
theorem cw1104 : (seg 5)[15]? = some (Cond.code (my 1104) (mb 1104) (mxl 1104) (mret 1104)) := rfl
set_option maxRecDepth 20000 in
theorem cw1105 : (seg 5)[12]? = some (Cond.code (my 1105) (mb 1105) (mxl 1105) (mret 1105)) := rfl
set_option maxRecDepth 20000 in
theorem cw1106 : (seg 5)[5]? = some (Cond.code (my 1106) (mb 1106) (mxl 1106) (mret 1106)) := rfl
set_option maxRecDepth 20000 in
theorem cw1107 : (seg 5)[19]? = some (Cond.code (my 1107) (mb 1107) (mxl 1107) (mret 1107)) := rfl
set_option maxRecDepth 20000 in
theorem cw1108 : (seg 5)[23]? = some (Cond.code (my 1108) (mb 1108) (mxl 1108) (mret 1108)) := rfl
set_option maxRecDepth 20000 in
theorem cw1109 : (seg 5)[27]? = some (Cond.code (my 1109) (mb 1109) (mxl 1109) (mret 1109)) := rfl
set_option maxRecDepth 20000 in
theorem cw1110 : (seg 5)[43]? = some (Cond.code (my 1110) (mb 1110) (mxl 1110) (mret 1110)) := rfl
set_option maxRecDepth 20000 in
theorem cw1111 : (seg 5)[47]? = some (Cond.code (my 1111) (mb 1111) (mxl 1111) (mret 1111)) := rfl
set_option maxRecDepth 20000 in
theorem cw1112 : (seg 5)[39]? = some (Cond.code (my 1112) (mb 1112) (mxl 1112) (mret 1112)) := rfl
set_option maxRecDepth 20000 in
theorem cw1113 : (seg 5)[35]? = some (Cond.code (my 1113) (mb 1113) (mxl 1113) (mret 1113)) := rfl
set_option maxRecDepth 20000 in
theorem cw1114 : (seg 5)[31]? = some (Cond.code (my 1114) (mb 1114) (mxl 1114) (mret 1114)) := rfl
set_option maxRecDepth 20000 in
theorem cw1115 : (seg 5)[51]? = some (Cond.code (my 1115) (mb 1115) (mxl 1115) (mret 1115)) := rfl
set_option maxRecDepth 20000 in
theorem cw1116 : (seg 5)[55]? = some (Cond.code (my 1116) (mb 1116) (mxl 1116) (mret 1116)) := rfl
set_option maxRecDepth 20000 in
theorem cw1117 : (seg 5)[59]? = some (Cond.code (my 1117) (mb 1117) (mxl 1117) (mret 1117)) := rfl
set_option maxRecDepth 20000 in
theorem cw1118 : (seg 5)[63]? = some (Cond.code (my 1118) (mb 1118) (mxl 1118) (mret 1118)) := rfl
set_option maxRecDepth 20000 in
theorem cw1119 : (seg 5)[171]? = some (Cond.code (my 1119) (mb 1119) (mxl 1119) (mret 1119)) := rfl
set_option maxRecDepth 20000 in
theorem cw1120 : (seg 5)[211]? = some (Cond.code (my 1120) (mb 1120) (mxl 1120) (mret 1120)) := rfl
set_option maxRecDepth 20000 in
theorem cw1121 : (seg 5)[167]? = some (Cond.code (my 1121) (mb 1121) (mxl 1121) (mret 1121)) := rfl
set_option maxRecDepth 20000 in
theorem cw1122 : (seg 5)[79]? = some (Cond.code (my 1122) (mb 1122) (mxl 1122) (mret 1122)) := rfl
set_option maxRecDepth 20000 in
theorem cw1123 : (seg 5)[83]? = some (Cond.code (my 1123) (mb 1123) (mxl 1123) (mret 1123)) := rfl
set_option maxRecDepth 20000 in
theorem cw1124 : (seg 5)[91]? = some (Cond.code (my 1124) (mb 1124) (mxl 1124) (mret 1124)) := rfl
set_option maxRecDepth 20000 in
theorem cw1125 : (seg 5)[75]? = some (Cond.code (my 1125) (mb 1125) (mxl 1125) (mret 1125)) := rfl
set_option maxRecDepth 20000 in
theorem cw1126 : (seg 5)[87]? = some (Cond.code (my 1126) (mb 1126) (mxl 1126) (mret 1126)) := rfl
set_option maxRecDepth 20000 in
theorem cw1127 : (seg 5)[99]? = some (Cond.code (my 1127) (mb 1127) (mxl 1127) (mret 1127)) := rfl
set_option maxRecDepth 20000 in
theorem cw1128 : (seg 5)[203]? = some (Cond.code (my 1128) (mb 1128) (mxl 1128) (mret 1128)) := rfl
set_option maxRecDepth 20000 in
theorem cw1129 : (seg 5)[111]? = some (Cond.code (my 1129) (mb 1129) (mxl 1129) (mret 1129)) := rfl
set_option maxRecDepth 20000 in
theorem cw1130 : (seg 5)[131]? = some (Cond.code (my 1130) (mb 1130) (mxl 1130) (mret 1130)) := rfl
set_option maxRecDepth 20000 in
theorem cw1131 : (seg 5)[119]? = some (Cond.code (my 1131) (mb 1131) (mxl 1131) (mret 1131)) := rfl
set_option maxRecDepth 20000 in
theorem cw1132 : (seg 5)[199]? = some (Cond.code (my 1132) (mb 1132) (mxl 1132) (mret 1132)) := rfl
set_option maxRecDepth 20000 in
theorem cw1133 : (seg 5)[195]? = some (Cond.code (my 1133) (mb 1133) (mxl 1133) (mret 1133)) := rfl
set_option maxRecDepth 20000 in
theorem cw1134 : (seg 5)[123]? = some (Cond.code (my 1134) (mb 1134) (mxl 1134) (mret 1134)) := rfl
set_option maxRecDepth 20000 in
theorem cw1135 : (seg 5)[135]? = some (Cond.code (my 1135) (mb 1135) (mxl 1135) (mret 1135)) := rfl
set_option maxRecDepth 20000 in
theorem cw1136 : (seg 5)[139]? = some (Cond.code (my 1136) (mb 1136) (mxl 1136) (mret 1136)) := rfl
set_option maxRecDepth 20000 in
theorem cw1137 : (seg 5)[146]? = some (Cond.code (my 1137) (mb 1137) (mxl 1137) (mret 1137)) := rfl
set_option maxRecDepth 20000 in
theorem cw1138 : (seg 5)[143]? = some (Cond.code (my 1138) (mb 1138) (mxl 1138) (mret 1138)) := rfl
set_option maxRecDepth 20000 in
theorem cw1139 : (seg 5)[151]? = some (Cond.code (my 1139) (mb 1139) (mxl 1139) (mret 1139)) := rfl
set_option maxRecDepth 20000 in
theorem cw1140 : (seg 5)[159]? = some (Cond.code (my 1140) (mb 1140) (mxl 1140) (mret 1140)) := rfl
set_option maxRecDepth 20000 in
theorem cw1141 : (seg 5)[163]? = some (Cond.code (my 1141) (mb 1141) (mxl 1141) (mret 1141)) := rfl
set_option maxRecDepth 20000 in
theorem cw1142 : (seg 5)[175]? = some (Cond.code (my 1142) (mb 1142) (mxl 1142) (mret 1142)) := rfl
set_option maxRecDepth 20000 in
theorem cw1143 : (seg 5)[179]? = some (Cond.code (my 1143) (mb 1143) (mxl 1143) (mret 1143)) := rfl
set_option maxRecDepth 20000 in
theorem cw1144 : (seg 5)[183]? = some (Cond.code (my 1144) (mb 1144) (mxl 1144) (mret 1144)) := rfl
set_option maxRecDepth 20000 in
theorem cw1145 : (seg 5)[187]? = some (Cond.code (my 1145) (mb 1145) (mxl 1145) (mret 1145)) := rfl
set_option maxRecDepth 20000 in
theorem cw1146 : (seg 5)[191]? = some (Cond.code (my 1146) (mb 1146) (mxl 1146) (mret 1146)) := rfl
set_option maxRecDepth 20000 in
theorem cw1147 : (seg 5)[115]? = some (Cond.code (my 1147) (mb 1147) (mxl 1147) (mret 1147)) := rfl
set_option maxRecDepth 20000 in
theorem cw1148 : (seg 5)[127]? = some (Cond.code (my 1148) (mb 1148) (mxl 1148) (mret 1148)) := rfl
set_option maxRecDepth 20000 in
theorem cw1149 : (seg 5)[155]? = some (Cond.code (my 1149) (mb 1149) (mxl 1149) (mret 1149)) := rfl
set_option maxRecDepth 20000 in
theorem cw1150 : (seg 5)[107]? = some (Cond.code (my 1150) (mb 1150) (mxl 1150) (mret 1150)) := rfl
set_option maxRecDepth 20000 in
theorem cw1151 : (seg 5)[95]? = some (Cond.code (my 1151) (mb 1151) (mxl 1151) (mret 1151)) := rfl
set_option maxRecDepth 20000 in
theorem cw1152 : (seg 5)[103]? = some (Cond.code (my 1152) (mb 1152) (mxl 1152) (mret 1152)) := rfl
set_option maxRecDepth 20000 in
theorem cw1153 : (seg 5)[71]? = some (Cond.code (my 1153) (mb 1153) (mxl 1153) (mret 1153)) := rfl
set_option maxRecDepth 20000 in
theorem cw1154 : (seg 5)[67]? = some (Cond.code (my 1154) (mb 1154) (mxl 1154) (mret 1154)) := rfl
set_option maxRecDepth 20000 in
theorem cw1155 : (seg 5)[207]? = some (Cond.code (my 1155) (mb 1155) (mxl 1155) (mret 1155)) := rfl
set_option maxRecDepth 20000 in
theorem cw1156 : (seg 5)[215]? = some (Cond.code (my 1156) (mb 1156) (mxl 1156) (mret 1156)) := rfl
set_option maxRecDepth 20000 in
theorem cw1157 : (seg 5)[219]? = some (Cond.code (my 1157) (mb 1157) (mxl 1157) (mret 1157)) := rfl
set_option maxRecDepth 20000 in
theorem cw1158 : (seg 5)[223]? = some (Cond.code (my 1158) (mb 1158) (mxl 1158) (mret 1158)) := rfl
set_option maxRecDepth 20000 in
theorem cw1159 : (seg 5)[227]? = some (Cond.code (my 1159) (mb 1159) (mxl 1159) (mret 1159)) := rfl
set_option maxRecDepth 20000 in
theorem cw1160 : (seg 5)[231]? = some (Cond.code (my 1160) (mb 1160) (mxl 1160) (mret 1160)) := rfl
set_option maxRecDepth 20000 in
theorem cw1161 : (seg 5)[235]? = some (Cond.code (my 1161) (mb 1161) (mxl 1161) (mret 1161)) := rfl
set_option maxRecDepth 20000 in
theorem cw1162 : (seg 5)[239]? = some (Cond.code (my 1162) (mb 1162) (mxl 1162) (mret 1162)) := rfl
set_option maxRecDepth 20000 in
theorem cw1163 : (seg 6)[3]? = some (Cond.code (my 1163) (mb 1163) (mxl 1163) (mret 1163)) := rfl
set_option maxRecDepth 20000 in
theorem cw1164 : (seg 6)[7]? = some (Cond.code (my 1164) (mb 1164) (mxl 1164) (mret 1164)) := rfl
set_option maxRecDepth 20000 in
theorem cw1165 : (seg 6)[11]? = some (Cond.code (my 1165) (mb 1165) (mxl 1165) (mret 1165)) := rfl
set_option maxRecDepth 20000 in
theorem cw1166 : (seg 6)[15]? = some (Cond.code (my 1166) (mb 1166) (mxl 1166) (mret 1166)) := rfl
theorem cwc0 : ∀ j, j < 5 → Cond.code (my (0 + j)) (mb (0 + j)) (mxl (0 + j)) (mret (0 + j)) ∈ lw_tbl := fun j hj => match j, hj with
  | 0, _ => seg_in _ _ (List.mem_of_getElem? cw0)
  | 1, _ => seg_in _ _ (List.mem_of_getElem? cw1)
  | 2, _ => seg_in _ _ (List.mem_of_getElem? cw2)
  | 3, _ => seg_in _ _ (List.mem_of_getElem? cw3)
  | 4, _ => seg_in _ _ (List.mem_of_getElem? cw4)
  | n + 5, h => absurd h (by omega)
theorem cwc1 : ∀ j, j < 6 → Cond.code (my (100 + j)) (mb (100 + j)) (mxl (100 + j)) (mret (100 + j)) ∈ lw_tbl := fun j hj => match j, hj with
  | 0, _ => seg_in _ _ (List.mem_of_getElem? cw100)
  | 1, _ => seg_in _ _ (List.mem_of_getElem? cw101)
  | 2, _ => seg_in _ _ (List.mem_of_getElem? cw102)
  | 3, _ => seg_in _ _ (List.mem_of_getElem? cw103)
  | 4, _ => seg_in _ _ (List.mem_of_getElem? cw104)
  | 5, _ => seg_in _ _ (List.mem_of_getElem? cw105)
  | n + 6, h => absurd h (by omega)
theorem cwc2 : ∀ j, j < 1 → Cond.code (my (200 + j)) (mb (200 + j)) (mxl (200 + j)) (mret (200 + j)) ∈ lw_tbl := fun j hj => match j, hj with
  | 0, _ => seg_in _ _ (List.mem_of_getElem? cw200)
  | n + 1, h => absurd h (by omega)
theorem cwc3 : ∀ j, j < 34 → Cond.code (my (300 + j)) (mb (300 + j)) (mxl (300 + j)) (mret (300 + j)) ∈ lw_tbl := fun j hj => match j, hj with
  | 0, _ => seg_in _ _ (List.mem_of_getElem? cw300)
  | 1, _ => seg_in _ _ (List.mem_of_getElem? cw301)
  | 2, _ => seg_in _ _ (List.mem_of_getElem? cw302)
  | 3, _ => seg_in _ _ (List.mem_of_getElem? cw303)
  | 4, _ => seg_in _ _ (List.mem_of_getElem? cw304)
  | 5, _ => seg_in _ _ (List.mem_of_getElem? cw305)
  | 6, _ => seg_in _ _ (List.mem_of_getElem? cw306)
  | 7, _ => seg_in _ _ (List.mem_of_getElem? cw307)
  | 8, _ => seg_in _ _ (List.mem_of_getElem? cw308)
  | 9, _ => seg_in _ _ (List.mem_of_getElem? cw309)
  | 10, _ => seg_in _ _ (List.mem_of_getElem? cw310)
  | 11, _ => seg_in _ _ (List.mem_of_getElem? cw311)
  | 12, _ => seg_in _ _ (List.mem_of_getElem? cw312)
  | 13, _ => seg_in _ _ (List.mem_of_getElem? cw313)
  | 14, _ => seg_in _ _ (List.mem_of_getElem? cw314)
  | 15, _ => seg_in _ _ (List.mem_of_getElem? cw315)
  | 16, _ => seg_in _ _ (List.mem_of_getElem? cw316)
  | 17, _ => seg_in _ _ (List.mem_of_getElem? cw317)
  | 18, _ => seg_in _ _ (List.mem_of_getElem? cw318)
  | 19, _ => seg_in _ _ (List.mem_of_getElem? cw319)
  | 20, _ => seg_in _ _ (List.mem_of_getElem? cw320)
  | 21, _ => seg_in _ _ (List.mem_of_getElem? cw321)
  | 22, _ => seg_in _ _ (List.mem_of_getElem? cw322)
  | 23, _ => seg_in _ _ (List.mem_of_getElem? cw323)
  | 24, _ => seg_in _ _ (List.mem_of_getElem? cw324)
  | 25, _ => seg_in _ _ (List.mem_of_getElem? cw325)
  | 26, _ => seg_in _ _ (List.mem_of_getElem? cw326)
  | 27, _ => seg_in _ _ (List.mem_of_getElem? cw327)
  | 28, _ => seg_in _ _ (List.mem_of_getElem? cw328)
  | 29, _ => seg_in _ _ (List.mem_of_getElem? cw329)
  | 30, _ => seg_in _ _ (List.mem_of_getElem? cw330)
  | 31, _ => seg_in _ _ (List.mem_of_getElem? cw331)
  | 32, _ => seg_in _ _ (List.mem_of_getElem? cw332)
  | 33, _ => seg_in _ _ (List.mem_of_getElem? cw333)
  | n + 34, h => absurd h (by omega)
theorem cwc4 : ∀ j, j < 5 → Cond.code (my (400 + j)) (mb (400 + j)) (mxl (400 + j)) (mret (400 + j)) ∈ lw_tbl := fun j hj => match j, hj with
  | 0, _ => seg_in _ _ (List.mem_of_getElem? cw400)
  | 1, _ => seg_in _ _ (List.mem_of_getElem? cw401)
  | 2, _ => seg_in _ _ (List.mem_of_getElem? cw402)
  | 3, _ => seg_in _ _ (List.mem_of_getElem? cw403)
  | 4, _ => seg_in _ _ (List.mem_of_getElem? cw404)
  | n + 5, h => absurd h (by omega)
theorem cwc5 : ∀ j, j < 5 → Cond.code (my (500 + j)) (mb (500 + j)) (mxl (500 + j)) (mret (500 + j)) ∈ lw_tbl := fun j hj => match j, hj with
  | 0, _ => seg_in _ _ (List.mem_of_getElem? cw500)
  | 1, _ => seg_in _ _ (List.mem_of_getElem? cw501)
  | 2, _ => seg_in _ _ (List.mem_of_getElem? cw502)
  | 3, _ => seg_in _ _ (List.mem_of_getElem? cw503)
  | 4, _ => seg_in _ _ (List.mem_of_getElem? cw504)
  | n + 5, h => absurd h (by omega)
theorem cwc6 : ∀ j, j < 5 → Cond.code (my (600 + j)) (mb (600 + j)) (mxl (600 + j)) (mret (600 + j)) ∈ lw_tbl := fun j hj => match j, hj with
  | 0, _ => seg_in _ _ (List.mem_of_getElem? cw600)
  | 1, _ => seg_in _ _ (List.mem_of_getElem? cw601)
  | 2, _ => seg_in _ _ (List.mem_of_getElem? cw602)
  | 3, _ => seg_in _ _ (List.mem_of_getElem? cw603)
  | 4, _ => seg_in _ _ (List.mem_of_getElem? cw604)
  | n + 5, h => absurd h (by omega)
theorem cwc7 : ∀ j, j < 6 → Cond.code (my (700 + j)) (mb (700 + j)) (mxl (700 + j)) (mret (700 + j)) ∈ lw_tbl := fun j hj => match j, hj with
  | 0, _ => seg_in _ _ (List.mem_of_getElem? cw700)
  | 1, _ => seg_in _ _ (List.mem_of_getElem? cw701)
  | 2, _ => seg_in _ _ (List.mem_of_getElem? cw702)
  | 3, _ => seg_in _ _ (List.mem_of_getElem? cw703)
  | 4, _ => seg_in _ _ (List.mem_of_getElem? cw704)
  | 5, _ => seg_in _ _ (List.mem_of_getElem? cw705)
  | n + 6, h => absurd h (by omega)
theorem cwc8 : ∀ j, j < 12 → Cond.code (my (800 + j)) (mb (800 + j)) (mxl (800 + j)) (mret (800 + j)) ∈ lw_tbl := fun j hj => match j, hj with
  | 0, _ => seg_in _ _ (List.mem_of_getElem? cw800)
  | 1, _ => seg_in _ _ (List.mem_of_getElem? cw801)
  | 2, _ => seg_in _ _ (List.mem_of_getElem? cw802)
  | 3, _ => seg_in _ _ (List.mem_of_getElem? cw803)
  | 4, _ => seg_in _ _ (List.mem_of_getElem? cw804)
  | 5, _ => seg_in _ _ (List.mem_of_getElem? cw805)
  | 6, _ => seg_in _ _ (List.mem_of_getElem? cw806)
  | 7, _ => seg_in _ _ (List.mem_of_getElem? cw807)
  | 8, _ => seg_in _ _ (List.mem_of_getElem? cw808)
  | 9, _ => seg_in _ _ (List.mem_of_getElem? cw809)
  | 10, _ => seg_in _ _ (List.mem_of_getElem? cw810)
  | 11, _ => seg_in _ _ (List.mem_of_getElem? cw811)
  | n + 12, h => absurd h (by omega)
theorem cwc9 : ∀ j, j < 8 → Cond.code (my (900 + j)) (mb (900 + j)) (mxl (900 + j)) (mret (900 + j)) ∈ lw_tbl := fun j hj => match j, hj with
  | 0, _ => seg_in _ _ (List.mem_of_getElem? cw900)
  | 1, _ => seg_in _ _ (List.mem_of_getElem? cw901)
  | 2, _ => seg_in _ _ (List.mem_of_getElem? cw902)
  | 3, _ => seg_in _ _ (List.mem_of_getElem? cw903)
  | 4, _ => seg_in _ _ (List.mem_of_getElem? cw904)
  | 5, _ => seg_in _ _ (List.mem_of_getElem? cw905)
  | 6, _ => seg_in _ _ (List.mem_of_getElem? cw906)
  | 7, _ => seg_in _ _ (List.mem_of_getElem? cw907)
  | n + 8, h => absurd h (by omega)
theorem cwc10 : ∀ j, j < 28 → Cond.code (my (1000 + j)) (mb (1000 + j)) (mxl (1000 + j)) (mret (1000 + j)) ∈ lw_tbl := fun j hj => match j, hj with
  | 0, _ => seg_in _ _ (List.mem_of_getElem? cw1000)
  | 1, _ => seg_in _ _ (List.mem_of_getElem? cw1001)
  | 2, _ => seg_in _ _ (List.mem_of_getElem? cw1002)
  | 3, _ => seg_in _ _ (List.mem_of_getElem? cw1003)
  | 4, _ => seg_in _ _ (List.mem_of_getElem? cw1004)
  | 5, _ => seg_in _ _ (List.mem_of_getElem? cw1005)
  | 6, _ => seg_in _ _ (List.mem_of_getElem? cw1006)
  | 7, _ => seg_in _ _ (List.mem_of_getElem? cw1007)
  | 8, _ => seg_in _ _ (List.mem_of_getElem? cw1008)
  | 9, _ => seg_in _ _ (List.mem_of_getElem? cw1009)
  | 10, _ => seg_in _ _ (List.mem_of_getElem? cw1010)
  | 11, _ => seg_in _ _ (List.mem_of_getElem? cw1011)
  | 12, _ => seg_in _ _ (List.mem_of_getElem? cw1012)
  | 13, _ => seg_in _ _ (List.mem_of_getElem? cw1013)
  | 14, _ => seg_in _ _ (List.mem_of_getElem? cw1014)
  | 15, _ => seg_in _ _ (List.mem_of_getElem? cw1015)
  | 16, _ => seg_in _ _ (List.mem_of_getElem? cw1016)
  | 17, _ => seg_in _ _ (List.mem_of_getElem? cw1017)
  | 18, _ => seg_in _ _ (List.mem_of_getElem? cw1018)
  | 19, _ => seg_in _ _ (List.mem_of_getElem? cw1019)
  | 20, _ => seg_in _ _ (List.mem_of_getElem? cw1020)
  | 21, _ => seg_in _ _ (List.mem_of_getElem? cw1021)
  | 22, _ => seg_in _ _ (List.mem_of_getElem? cw1022)
  | 23, _ => seg_in _ _ (List.mem_of_getElem? cw1023)
  | 24, _ => seg_in _ _ (List.mem_of_getElem? cw1024)
  | 25, _ => seg_in _ _ (List.mem_of_getElem? cw1025)
  | 26, _ => seg_in _ _ (List.mem_of_getElem? cw1026)
  | 27, _ => seg_in _ _ (List.mem_of_getElem? cw1027)
  | n + 28, h => absurd h (by omega)
theorem cwc11 : ∀ j, j < 67 → Cond.code (my (1100 + j)) (mb (1100 + j)) (mxl (1100 + j)) (mret (1100 + j)) ∈ lw_tbl := fun j hj => match j, hj with
  | 0, _ => seg_in _ _ (List.mem_of_getElem? cw1100)
  | 1, _ => seg_in _ _ (List.mem_of_getElem? cw1101)
  | 2, _ => seg_in _ _ (List.mem_of_getElem? cw1102)
  | 3, _ => seg_in _ _ (List.mem_of_getElem? cw1103)
  | 4, _ => seg_in _ _ (List.mem_of_getElem? cw1104)
  | 5, _ => seg_in _ _ (List.mem_of_getElem? cw1105)
  | 6, _ => seg_in _ _ (List.mem_of_getElem? cw1106)
  | 7, _ => seg_in _ _ (List.mem_of_getElem? cw1107)
  | 8, _ => seg_in _ _ (List.mem_of_getElem? cw1108)
  | 9, _ => seg_in _ _ (List.mem_of_getElem? cw1109)
  | 10, _ => seg_in _ _ (List.mem_of_getElem? cw1110)
  | 11, _ => seg_in _ _ (List.mem_of_getElem? cw1111)
  | 12, _ => seg_in _ _ (List.mem_of_getElem? cw1112)
  | 13, _ => seg_in _ _ (List.mem_of_getElem? cw1113)
  | 14, _ => seg_in _ _ (List.mem_of_getElem? cw1114)
  | 15, _ => seg_in _ _ (List.mem_of_getElem? cw1115)
  | 16, _ => seg_in _ _ (List.mem_of_getElem? cw1116)
  | 17, _ => seg_in _ _ (List.mem_of_getElem? cw1117)
  | 18, _ => seg_in _ _ (List.mem_of_getElem? cw1118)
  | 19, _ => seg_in _ _ (List.mem_of_getElem? cw1119)
  | 20, _ => seg_in _ _ (List.mem_of_getElem? cw1120)
  | 21, _ => seg_in _ _ (List.mem_of_getElem? cw1121)
  | 22, _ => seg_in _ _ (List.mem_of_getElem? cw1122)
  | 23, _ => seg_in _ _ (List.mem_of_getElem? cw1123)
  | 24, _ => seg_in _ _ (List.mem_of_getElem? cw1124)
  | 25, _ => seg_in _ _ (List.mem_of_getElem? cw1125)
  | 26, _ => seg_in _ _ (List.mem_of_getElem? cw1126)
  | 27, _ => seg_in _ _ (List.mem_of_getElem? cw1127)
  | 28, _ => seg_in _ _ (List.mem_of_getElem? cw1128)
  | 29, _ => seg_in _ _ (List.mem_of_getElem? cw1129)
  | 30, _ => seg_in _ _ (List.mem_of_getElem? cw1130)
  | 31, _ => seg_in _ _ (List.mem_of_getElem? cw1131)
  | 32, _ => seg_in _ _ (List.mem_of_getElem? cw1132)
  | 33, _ => seg_in _ _ (List.mem_of_getElem? cw1133)
  | 34, _ => seg_in _ _ (List.mem_of_getElem? cw1134)
  | 35, _ => seg_in _ _ (List.mem_of_getElem? cw1135)
  | 36, _ => seg_in _ _ (List.mem_of_getElem? cw1136)
  | 37, _ => seg_in _ _ (List.mem_of_getElem? cw1137)
  | 38, _ => seg_in _ _ (List.mem_of_getElem? cw1138)
  | 39, _ => seg_in _ _ (List.mem_of_getElem? cw1139)
  | 40, _ => seg_in _ _ (List.mem_of_getElem? cw1140)
  | 41, _ => seg_in _ _ (List.mem_of_getElem? cw1141)
  | 42, _ => seg_in _ _ (List.mem_of_getElem? cw1142)
  | 43, _ => seg_in _ _ (List.mem_of_getElem? cw1143)
  | 44, _ => seg_in _ _ (List.mem_of_getElem? cw1144)
  | 45, _ => seg_in _ _ (List.mem_of_getElem? cw1145)
  | 46, _ => seg_in _ _ (List.mem_of_getElem? cw1146)
  | 47, _ => seg_in _ _ (List.mem_of_getElem? cw1147)
  | 48, _ => seg_in _ _ (List.mem_of_getElem? cw1148)
  | 49, _ => seg_in _ _ (List.mem_of_getElem? cw1149)
  | 50, _ => seg_in _ _ (List.mem_of_getElem? cw1150)
  | 51, _ => seg_in _ _ (List.mem_of_getElem? cw1151)
  | 52, _ => seg_in _ _ (List.mem_of_getElem? cw1152)
  | 53, _ => seg_in _ _ (List.mem_of_getElem? cw1153)
  | 54, _ => seg_in _ _ (List.mem_of_getElem? cw1154)
  | 55, _ => seg_in _ _ (List.mem_of_getElem? cw1155)
  | 56, _ => seg_in _ _ (List.mem_of_getElem? cw1156)
  | 57, _ => seg_in _ _ (List.mem_of_getElem? cw1157)
  | 58, _ => seg_in _ _ (List.mem_of_getElem? cw1158)
  | 59, _ => seg_in _ _ (List.mem_of_getElem? cw1159)
  | 60, _ => seg_in _ _ (List.mem_of_getElem? cw1160)
  | 61, _ => seg_in _ _ (List.mem_of_getElem? cw1161)
  | 62, _ => seg_in _ _ (List.mem_of_getElem? cw1162)
  | 63, _ => seg_in _ _ (List.mem_of_getElem? cw1163)
  | 64, _ => seg_in _ _ (List.mem_of_getElem? cw1164)
  | 65, _ => seg_in _ _ (List.mem_of_getElem? cw1165)
  | 66, _ => seg_in _ _ (List.mem_of_getElem? cw1166)
  | n + 67, h => absurd h (by omega)
theorem ckY0 : ((List.range tbY0.length).all fun j => okm (0 + j)) = true := by decide +kernel
theorem ckY1 : ((List.range tbY1.length).all fun j => okm (100 + j)) = true := by decide +kernel
theorem ckY2 : ((List.range tbY2.length).all fun j => okm (200 + j)) = true := by decide +kernel
theorem ckY3 : ((List.range tbY3.length).all fun j => okm (300 + j)) = true := by decide +kernel
theorem ckY4 : ((List.range tbY4.length).all fun j => okm (400 + j)) = true := by decide +kernel
theorem ckY5 : ((List.range tbY5.length).all fun j => okm (500 + j)) = true := by decide +kernel
theorem ckY6 : ((List.range tbY6.length).all fun j => okm (600 + j)) = true := by decide +kernel
theorem ckY7 : ((List.range tbY7.length).all fun j => okm (700 + j)) = true := by decide +kernel
theorem ckY8 : ((List.range tbY8.length).all fun j => okm (800 + j)) = true := by decide +kernel
theorem ckY9 : ((List.range tbY9.length).all fun j => okm (900 + j)) = true := by decide +kernel
theorem ckY10 : ((List.range tbY10.length).all fun j => okm (1000 + j)) = true := by decide +kernel
theorem ckY11 : ((List.range tbY11.length).all fun j => okm (1100 + j)) = true := by decide +kernel
def ckK : Bool := (List.range 13).all fun own => (tbK own).all fun e => at_ e.2.2 (.classLink (cname own) e.1 (cname e.2.1)) && decide (e.2.1 < 12)
def ckC : Bool := (List.range 13).all fun own => (tbC own).all fun e => at_ e.2.2 (.constant (cname own) e.1 e.2.1)
def ckI : Bool := (List.range 13).all fun c => at_ (tbI.getD c (0, 0)).1 (.initialized (cname c))
def ckN : Bool := (List.range 12).all fun c => at_ (tbI.getD c (0, 0)).2 (.instantiable (cname c) (fnum c))
def ckL : Bool := (List.range 12).all fun c => (List.range (fnum c)).all fun k => at_ ((tbL c).getD k 0) (u_lay (cname c) (ftab c) k)
def ckO : Bool := tbO.all fun e => at_ e.2 (.arrayOver (.object (cname e.1))) && decide (e.1 < 12)
theorem ckF_ok : ckF = true := by decide +kernel
theorem ckS_ok : ckS = true := by decide +kernel
theorem ckK_ok : ckK = true := by decide +kernel
theorem ckC_ok : ckC = true := by decide +kernel
theorem ckI_ok : ckI = true := by decide +kernel
theorem ckN_ok : ckN = true := by decide +kernel
theorem ckL_ok : ckL = true := by decide +kernel
theorem ckO_ok : ckO = true := by decide +kernel
theorem ckM_ok : ckM = true := by decide +kernel
theorem ckX : (at_ 10054 (.arrayClass .int) && at_ 20195 (.static Lib.Math.max.name) && at_ 10011 (.initialized "java/lang/Math") && at_ 20196 (.code Lib.Math.max.name Lib.Math.max.code 2 (some .int)) && at_ 20175 (.native arraycopyName) && at_ 20174 (.static arraycopyName) && at_ 10010 (.initialized "java/lang/System") && at_ 10021 (.instanceMethod objectInit) && at_ 10022 (.code objectInit ⟨#[0xb1]⟩ 1 none)) = true := by decide +kernel
theorem nm_all : ∀ c, c < 12 → ∀ a, a < fnum c → ∀ b, b < fnum c → a ≠ b → (ftab c a).2.1 ≠ (ftab c b).2.1 := fun c hc => match c, hc with
  | 0, _ => nmX0
  | 1, _ => nmX1
  | 2, _ => nmX2
  | 3, _ => nmX3
  | 4, _ => nmX4
  | 5, _ => nmX5
  | 6, _ => nmX6
  | 7, _ => nmX7
  | 8, _ => nmX8
  | 9, _ => nmX9
  | 10, _ => nmX10
  | 11, _ => nmX11
  | n + 12, h => absurd h (by omega)
theorem ty_all : ∀ c, c < 12 → ∀ k, k < fnum c → parseFieldDescriptor (ftab c k).2.2.1 = some (fty c k) := fun c hc => match c, hc with
  | 0, _ => tyX0_ok
  | 1, _ => tyX1_ok
  | 2, _ => tyX2_ok
  | 3, _ => tyX3_ok
  | 4, _ => tyX4_ok
  | 5, _ => tyX5_ok
  | 6, _ => tyX6_ok
  | 7, _ => tyX7_ok
  | 8, _ => tyX8_ok
  | 9, _ => tyX9_ok
  | 10, _ => tyX10_ok
  | 11, _ => tyX11_ok
  | n + 12, h => absurd h (by omega)
theorem all_rg {n : Nat} {f : Nat → Bool} (h : (List.range n).all f = true) {k : Nat} (hk : k < n) : f k = true := List.all_eq_true.mp h k (List.mem_range.mpr hk)
theorem find_at {α β : Type} {l : List (Nat × α × β)} {idx : Nat} {v : α} (h : (l.find? (fun e => e.1 == idx)).map (fun e => e.2.1) = some v) : ∃ e ∈ l, e.1 = idx ∧ e.2.1 = v := by
  cases hf : l.find? (fun e => e.1 == idx) with
  | none => rw [hf] at h; cases h
  | some e =>
    rw [hf] at h
    exact ⟨e, List.mem_of_find?_eq_some hf, by simpa using List.find?_some hf, Option.some.inj h⟩
theorem cw_all {t : Nat} (h : t / 100 < 12) (h2 : t % 100 < (tbY (t / 100)).length) : Cond.code (my t) (mb t) (mxl t) (mret t) ∈ lw_tbl := by
  have e : t = 100 * (t / 100) + t % 100 := by omega
  generalize t / 100 = c at h h2 e
  generalize t % 100 = j at h2 e
  subst e
  match c, h, h2 with
  | 0, _, h2 => exact cwc0 j h2
  | 1, _, h2 => exact cwc1 j h2
  | 2, _, h2 => exact cwc2 j h2
  | 3, _, h2 => exact cwc3 j h2
  | 4, _, h2 => exact cwc4 j h2
  | 5, _, h2 => exact cwc5 j h2
  | 6, _, h2 => exact cwc6 j h2
  | 7, _, h2 => exact cwc7 j h2
  | 8, _, h2 => exact cwc8 j h2
  | 9, _, h2 => exact cwc9 j h2
  | 10, _, h2 => exact cwc10 j h2
  | 11, _, h2 => exact cwc11 j h2
  | n + 12, h, _ => exact absurd h (by omega)
theorem okm_all {t : Nat} (h : t / 100 < 12) (h2 : t % 100 < (tbY (t / 100)).length) : okm t = true := by
  have e : t = 100 * (t / 100) + t % 100 := by omega
  generalize t / 100 = c at h h2 e
  generalize t % 100 = j at h2 e
  subst e
  match c, h, h2 with
  | 0, _, h2 => exact all_rg ckY0 h2
  | 1, _, h2 => exact all_rg ckY1 h2
  | 2, _, h2 => exact all_rg ckY2 h2
  | 3, _, h2 => exact all_rg ckY3 h2
  | 4, _, h2 => exact all_rg ckY4 h2
  | 5, _, h2 => exact all_rg ckY5 h2
  | 6, _, h2 => exact all_rg ckY6 h2
  | 7, _, h2 => exact all_rg ckY7 h2
  | 8, _, h2 => exact all_rg ckY8 h2
  | 9, _, h2 => exact all_rg ckY9 h2
  | 10, _, h2 => exact all_rg ckY10 h2
  | 11, _, h2 => exact all_rg ckY11 h2
  | n + 12, h, _ => exact absurd h (by omega)
theorem lkF_ok {own idx : Nat} {f : Nat × Nat × Bool} (ho : own < 13) (h : lkF own idx = some f) : wF own idx f ∈ lw_tbl ∧ f.1 < 12 ∧ f.2.1 < fnum f.1 ∧ (ftab f.1 f.2.1).1 = cname f.1 := by
  obtain ⟨e, he, rfl, rfl⟩ := find_at h
  have := List.all_eq_true.mp (all_rg ckF_ok ho) e he
  simp only [Bool.and_eq_true, decide_eq_true_eq] at this
  exact ⟨at_mem this.1.1.1, this.1.1.2, this.1.2, this.2⟩
theorem lkS_ok {own idx : Nat} {f : Nat × Bool} (ho : own < 13) (h : lkS own idx = some f) : wSt own idx f ∈ lw_tbl ∧ (f.1 = 2 ∨ f.1 = 3) := by
  obtain ⟨e, he, rfl, rfl⟩ := find_at h
  have := List.all_eq_true.mp (all_rg ckS_ok ho) e he
  simp only [Bool.and_eq_true, Bool.or_eq_true, beq_iff_eq] at this
  exact ⟨at_mem this.1, this.2⟩
theorem lkM_ok {own idx : Nat} {t : Nat × Bool} (ho : own < 13) (h : lkM own idx = some t) : wM own idx t ∈ lw_tbl ∧ (t.1 < 9000 → okm t.1 = true ∧ Cond.code (my t.1) (mb t.1) (mxl t.1) (mret t.1) ∈ lw_tbl) := by
  obtain ⟨e, he, rfl, rfl⟩ := find_at h
  have := List.all_eq_true.mp (all_rg ckM_ok ho) e he
  simp only [Bool.and_eq_true] at this
  refine ⟨at_mem this.1, fun hlt => ?_⟩
  have h2 := this.2
  rw [decide_eq_true hlt] at h2
  simp only [okl, Bool.and_eq_true, decide_eq_true_eq] at h2
  exact ⟨okm_all h2.1 h2.2, cw_all h2.1 h2.2⟩
theorem lkK_ok {own idx ci : Nat} (ho : own < 13) (h : lkK own idx = some ci) : Cond.classLink (cname own) idx (cname ci) ∈ lw_tbl ∧ ci < 12 := by
  obtain ⟨e, he, rfl, rfl⟩ := find_at h
  have := List.all_eq_true.mp (all_rg ckK_ok ho) e he
  simp only [Bool.and_eq_true, decide_eq_true_eq] at this
  exact ⟨at_mem this.1, this.2⟩
theorem lkC_ok {own idx : Nat} {v : Int32} (ho : own < 13) (h : lkC own idx = some v) : Cond.constant (cname own) idx v ∈ lw_tbl := by
  obtain ⟨e, he, rfl, rfl⟩ := find_at h
  exact at_mem (List.all_eq_true.mp (all_rg ckC_ok ho) e he)
theorem lkO_ok {ci : Nat} (h : lkO ci = true) : Cond.arrayOver (.object (cname ci)) ∈ lw_tbl ∧ ci < 12 := by
  obtain ⟨e, he, h1⟩ := List.any_eq_true.mp h
  have := List.all_eq_true.mp ckO_ok e he
  simp only [Bool.and_eq_true, decide_eq_true_eq] at this
  have e1 : e.1 = ci := by simpa using h1
  rw [e1] at this
  exact ⟨at_mem this.1, this.2⟩
/-- the words that stay good, and those of nest mates -/
def GW : List Cond := lw_tbl.filter goodWord
def WS (m : Nat) : List Cond := Cond.code (my m) (mb m) (mxl m) (mret m) :: GW
theorem gw {w : Cond} (h : w ∈ lw_tbl) (hg : goodWord w = true) : w ∈ GW := List.mem_filter.mpr ⟨h, hg⟩
def isNest (w : Cond) : Bool := match w with
  | .fieldLinkNest _ _ _ _ _ _ => true
  | .methodLinkNest _ _ _ _ => true
  | _ => false
def NW (s : State) : Prop := ∀ w ∈ lw_tbl, isNest w = true → va_Nw w s
theorem NW.warm {s U : State} (hW : s.WarmedH U.vm) (h : NW s) : NW U := by
  intro w hw hn
  cases w with
  | fieldLinkNest a i b n d hh => exact va_Nw.warmF hW (h _ hw hn)
  | methodLinkNest a i x hh => exact va_Nw.warmM hW (h _ hw hn)
  | _ => cases hn
theorem NW.same {s U : State} (hv : s.vm = U.vm) (h : NW s) : NW U := by
  intro w hw hn
  cases w with
  | fieldLinkNest a i b n d hh => exact va_Nw.same rfl hv (h _ hw hn)
  | methodLinkNest a i x hh => exact va_Nw.same rfl hv (h _ hw hn)
  | _ => cases hn
theorem goodIn_WS (m m' : Nat) (h : Cond.code (my m') (mb m') (mxl m') (mret m') ∈ lw_tbl) : GoodIn (WS m) (WS m') := by
  intro w hw
  rcases List.mem_cons.mp hw with rfl | hw
  · exact ⟨List.mem_cons_of_mem _ (gw h rfl), Or.inl rfl⟩
  · exact ⟨List.mem_cons_of_mem _ hw, good_of_word (List.mem_filter.mp hw).2⟩
theorem u_in {c : Nat} (hc : c < 12) : ∀ w ∈ u_ws (cname c) (ftab c) (fnum c), w ∈ GW := by
  intro w hw
  obtain ⟨k, hk, rfl⟩ := List.mem_map.mp hw
  refine gw (at_mem (List.all_eq_true.mp (all_rg ckL_ok hc) k hk)) ?_
  unfold u_lay
  split <;> rfl
theorem w_init {c : Nat} (hc : c < 13) : Cond.initialized (cname c) ∈ GW := gw (at_mem (all_rg ckI_ok hc)) rfl
theorem w_inst {c : Nat} (hc : c < 12) : Cond.instantiable (cname c) (fnum c) ∈ GW := gw (at_mem (all_rg ckN_ok hc)) rfl
