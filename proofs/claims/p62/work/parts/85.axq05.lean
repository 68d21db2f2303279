/-! ax: runs of contracts, written by a program -/
def ax_g463 : ax_G := (0x0, 1, [], [], [], 0, 1, [])
set_option maxRecDepth 1000000 in
theorem ax_q463 : ax_chk ax_g463 ax_c463 0 1000000 = true := by decide +kernel
def ax_g464 : ax_G := (0x0, 1, [], [], [], 0, 1, [])
set_option maxRecDepth 1000000 in
theorem ax_q464 : ax_chk ax_g464 ax_c464 0 1000000 = true := by decide +kernel
def ax_g465 : ax_G := (0x0, 1, [], [], [], 0, 1, [])
set_option maxRecDepth 1000000 in
theorem ax_q465 : ax_chk ax_g465 ax_c465 0 1000000 = true := by decide +kernel
def ax_g466 : ax_G := (0x0, 1, [], [], [], 0, 1, [])
set_option maxRecDepth 1000000 in
theorem ax_q466 : ax_chk ax_g466 ax_c466 0 1000000 = true := by decide +kernel
def ax_g467 : ax_G := (0x0, 1, [], [], [], 0, 1, [])
set_option maxRecDepth 1000000 in
theorem ax_q467 : ax_chk ax_g467 ax_c467 0 1000000 = true := by decide +kernel
def ax_g468 : ax_G := (0x0, 1, [], [], [], 0, 1, [])
set_option maxRecDepth 1000000 in
theorem ax_q468 : ax_chk ax_g468 ax_c468 0 1000000 = true := by decide +kernel
def ax_g469 : ax_G := (0x0, 1, [], [], [], 0, 1, [])
set_option maxRecDepth 1000000 in
theorem ax_q469 : ax_chk ax_g469 ax_c469 0 1000000 = true := by decide +kernel
def ax_g470 : ax_G := (0x0, 1, [], [], [], 0, 1, [])
set_option maxRecDepth 1000000 in
theorem ax_q470 : ax_chk ax_g470 ax_c470 0 1000000 = true := by decide +kernel
def ax_g471 : ax_G := (0x0, 1, [], [], [], 0, 1, [])
set_option maxRecDepth 1000000 in
theorem ax_q471 : ax_chk ax_g471 ax_c471 0 1000000 = true := by decide +kernel
def ax_g472 : ax_G := (0x0, 1, [], [], [], 0, 1, [])
set_option maxRecDepth 1000000 in
theorem ax_q472 : ax_chk ax_g472 ax_c472 0 1000000 = true := by decide +kernel
def ax_g473 : ax_G := (0x0, 1, [], [], [], 0, 1, [])
set_option maxRecDepth 1000000 in
theorem ax_q473 : ax_chk ax_g473 ax_c473 0 1000000 = true := by decide +kernel
def ax_g474 : ax_G := (0x0, 1, [], [], [], 0, 1, [])
set_option maxRecDepth 1000000 in
theorem ax_q474 : ax_chk ax_g474 ax_c474 0 1000000 = true := by decide +kernel
def ax_g475 : ax_G := (0x0, 1, [], [], [], 0, 1, [])
set_option maxRecDepth 1000000 in
theorem ax_q475 : ax_chk ax_g475 ax_c475 0 1000000 = true := by decide +kernel
def ax_g476 : ax_G := (0x0, 1, [], [], [], 0, 1, [])
set_option maxRecDepth 1000000 in
theorem ax_q476 : ax_chk ax_g476 ax_c476 0 1000000 = true := by decide +kernel
def ax_g477 : ax_G := (0x0, 1, [], [], [], 0, 1, [])
set_option maxRecDepth 1000000 in
theorem ax_q477 : ax_chk ax_g477 ax_c477 0 1000000 = true := by decide +kernel
def ax_g478 : ax_G := (0x0, 1, [], [], [], 0, 1, [])
set_option maxRecDepth 1000000 in
theorem ax_q478 : ax_chk ax_g478 ax_c478 0 1000000 = true := by decide +kernel
def ax_g479 : ax_G := (0x0, 1, [], [], [], 0, 1, [])
set_option maxRecDepth 1000000 in
theorem ax_q479 : ax_chk ax_g479 ax_c479 0 1000000 = true := by decide +kernel
def ax_g480 : ax_G := (0x0, 1, [], [], [], 0, 1, [])
set_option maxRecDepth 1000000 in
theorem ax_q480 : ax_chk ax_g480 ax_c480 0 1000000 = true := by decide +kernel
def ax_g481 : ax_G := (0x0, 1, [], [], [], 0, 1, [])
set_option maxRecDepth 1000000 in
theorem ax_q481 : ax_chk ax_g481 ax_c481 0 1000000 = true := by decide +kernel
def ax_g482 : ax_G := (0x0, 1, [], [], [], 0, 1, [])
set_option maxRecDepth 1000000 in
theorem ax_q482 : ax_chk ax_g482 ax_c482 0 1000000 = true := by decide +kernel
def ax_g483 : ax_G := (0x0, 1, [], [], [], 0, 1, [])
set_option maxRecDepth 1000000 in
theorem ax_q483 : ax_chk ax_g483 ax_c483 0 1000000 = true := by decide +kernel
def ax_g484 : ax_G := (0x0, 1, [], [], [], 0, 1, [])
set_option maxRecDepth 1000000 in
theorem ax_q484 : ax_chk ax_g484 ax_c484 0 1000000 = true := by decide +kernel
def ax_g485 : ax_G := (0x0, 1, [], [], [], 0, 1, [])
set_option maxRecDepth 1000000 in
theorem ax_q485 : ax_chk ax_g485 ax_c485 0 1000000 = true := by decide +kernel
def ax_g486 : ax_G := (0x0, 1, [], [], [], 0, 1, [])
set_option maxRecDepth 1000000 in
theorem ax_q486 : ax_chk ax_g486 ax_c486 0 1000000 = true := by decide +kernel
def ax_g487 : ax_G := (0x0, 1, [], [], [], 0, 1, [])
set_option maxRecDepth 1000000 in
theorem ax_q487 : ax_chk ax_g487 ax_c487 0 1000000 = true := by decide +kernel
def ax_g488 : ax_G := (0x0, 1, [], [], [], 0, 1, [])
set_option maxRecDepth 1000000 in
theorem ax_q488 : ax_chk ax_g488 ax_c488 0 1000000 = true := by decide +kernel
def ax_g489 : ax_G := (0x0, 1, [], [], [], 0, 1, [])
set_option maxRecDepth 1000000 in
theorem ax_q489 : ax_chk ax_g489 ax_c489 0 1000000 = true := by decide +kernel
def ax_g490 : ax_G := (0x0, 1, [], [], [], 0, 1, [])
set_option maxRecDepth 1000000 in
theorem ax_q490 : ax_chk ax_g490 ax_c490 0 1000000 = true := by decide +kernel
def ax_g491 : ax_G := (0x0, 1, [], [], [], 0, 1, [])
set_option maxRecDepth 1000000 in
theorem ax_q491 : ax_chk ax_g491 ax_c491 0 1000000 = true := by decide +kernel
def ax_g492 : ax_G := (0x0, 1, [], [], [], 0, 1, [])
set_option maxRecDepth 1000000 in
theorem ax_q492 : ax_chk ax_g492 ax_c492 0 1000000 = true := by decide +kernel
def ax_g493 : ax_G := (0x0, 1, [], [], [], 0, 1, [])
set_option maxRecDepth 1000000 in
theorem ax_q493 : ax_chk ax_g493 ax_c493 0 1000000 = true := by decide +kernel
def ax_g494 : ax_G := (0x0, 1, [], [], [], 0, 1, [])
set_option maxRecDepth 1000000 in
theorem ax_q494 : ax_chk ax_g494 ax_c494 0 1000000 = true := by decide +kernel
def ax_g495 : ax_G := (0x0, 1, [], [], [], 0, 1, [])
set_option maxRecDepth 1000000 in
theorem ax_q495 : ax_chk ax_g495 ax_c495 0 1000000 = true := by decide +kernel
def ax_g496 : ax_G := (0x0, 1, [], [], [], 0, 1, [])
set_option maxRecDepth 1000000 in
theorem ax_q496 : ax_chk ax_g496 ax_c496 0 1000000 = true := by decide +kernel
def ax_g497 : ax_G := (0x0, 1, [], [], [], 0, 1, [])
set_option maxRecDepth 1000000 in
theorem ax_q497 : ax_chk ax_g497 ax_c497 0 1000000 = true := by decide +kernel
def ax_g498 : ax_G := (0x0, 1, [], [], [], 0, 1, [])
set_option maxRecDepth 1000000 in
theorem ax_q498 : ax_chk ax_g498 ax_c498 0 1000000 = true := by decide +kernel
def ax_g499 : ax_G := (0x0, 1, [], [], [], 0, 1, [])
set_option maxRecDepth 1000000 in
theorem ax_q499 : ax_chk ax_g499 ax_c499 0 1000000 = true := by decide +kernel
def ax_g500 : ax_G := (0x0, 1, [], [], [], 0, 1, [])
set_option maxRecDepth 1000000 in
theorem ax_q500 : ax_chk ax_g500 ax_c500 0 1000000 = true := by decide +kernel
def ax_g501 : ax_G := (0x0, 1, [], [], [], 0, 1, [])
set_option maxRecDepth 1000000 in
theorem ax_q501 : ax_chk ax_g501 ax_c501 0 1000000 = true := by decide +kernel
def ax_g502 : ax_G := (0x0, 1, [], [], [], 0, 1, [])
set_option maxRecDepth 1000000 in
theorem ax_q502 : ax_chk ax_g502 ax_c502 0 1000000 = true := by decide +kernel
def ax_g503 : ax_G := (0x0, 1, [], [], [], 0, 1, [])
set_option maxRecDepth 1000000 in
theorem ax_q503 : ax_chk ax_g503 ax_c503 0 1000000 = true := by decide +kernel
def ax_g504 : ax_G := (0x0, 1, [], [], [], 0, 1, [])
set_option maxRecDepth 1000000 in
theorem ax_q504 : ax_chk ax_g504 ax_c504 0 1000000 = true := by decide +kernel
def ax_g505 : ax_G := (0x0, 1, [], [], [], 0, 1, [])
set_option maxRecDepth 1000000 in
theorem ax_q505 : ax_chk ax_g505 ax_c505 0 1000000 = true := by decide +kernel
def ax_g506 : ax_G := (0x0, 1, [], [], [], 0, 1, [])
set_option maxRecDepth 1000000 in
theorem ax_q506 : ax_chk ax_g506 ax_c506 0 1000000 = true := by decide +kernel
def ax_g507 : ax_G := (0x0, 1, [], [], [], 0, 1, [])
set_option maxRecDepth 1000000 in
theorem ax_q507 : ax_chk ax_g507 ax_c507 0 1000000 = true := by decide +kernel
def ax_g508 : ax_G := (0x0, 1, [], [], [], 0, 1, [])
set_option maxRecDepth 1000000 in
theorem ax_q508 : ax_chk ax_g508 ax_c508 0 1000000 = true := by decide +kernel
def ax_g509 : ax_G := (0x0, 1, [], [], [], 0, 1, [])
set_option maxRecDepth 1000000 in
theorem ax_q509 : ax_chk ax_g509 ax_c509 0 1000000 = true := by decide +kernel
def ax_g510 : ax_G := (0x0, 1, [], [], [], 0, 1, [])
set_option maxRecDepth 1000000 in
theorem ax_q510 : ax_chk ax_g510 ax_c510 0 1000000 = true := by decide +kernel
def ax_g511 : ax_G := (0x0, 1, [], [], [], 0, 1, [])
set_option maxRecDepth 1000000 in
theorem ax_q511 : ax_chk ax_g511 ax_c511 0 1000000 = true := by decide +kernel
def ax_g512 : ax_G := (0x0, 1, [], [], [], 0, 1, [])
set_option maxRecDepth 1000000 in
theorem ax_q512 : ax_chk ax_g512 ax_c512 0 1000000 = true := by decide +kernel
def ax_g513 : ax_G := (0x0, 1, [], [], [], 0, 1, [])
set_option maxRecDepth 1000000 in
theorem ax_q513 : ax_chk ax_g513 ax_c513 0 1000000 = true := by decide +kernel
def ax_g514 : ax_G := (0x0, 1, [], [], [], 0, 1, [])
set_option maxRecDepth 1000000 in
theorem ax_q514 : ax_chk ax_g514 ax_c514 0 1000000 = true := by decide +kernel
def ax_g515 : ax_G := (0x0, 1, [], [], [], 0, 1, [])
set_option maxRecDepth 1000000 in
theorem ax_q515 : ax_chk ax_g515 ax_c515 0 1000000 = true := by decide +kernel
def ax_g516 : ax_G := (0x0, 1, [], [], [], 0, 1, [])
set_option maxRecDepth 1000000 in
theorem ax_q516 : ax_chk ax_g516 ax_c516 0 1000000 = true := by decide +kernel
def ax_g517 : ax_G := (0x0, 1, [], [], [], 0, 1, [])
set_option maxRecDepth 1000000 in
theorem ax_q517 : ax_chk ax_g517 ax_c517 0 1000000 = true := by decide +kernel
def ax_g518 : ax_G := (0x0, 1, [], [], [], 0, 1, [])
set_option maxRecDepth 1000000 in
theorem ax_q518 : ax_chk ax_g518 ax_c518 0 1000000 = true := by decide +kernel
def ax_g519 : ax_G := (0x0, 1, [], [], [], 0, 1, [])
set_option maxRecDepth 1000000 in
theorem ax_q519 : ax_chk ax_g519 ax_c519 0 1000000 = true := by decide +kernel
def ax_g520 : ax_G := (0x0, 1, [], [], [], 0, 1, [])
set_option maxRecDepth 1000000 in
theorem ax_q520 : ax_chk ax_g520 ax_c520 0 1000000 = true := by decide +kernel
def ax_g521 : ax_G := (0x0, 1, [], [], [], 0, 1, [])
set_option maxRecDepth 1000000 in
theorem ax_q521 : ax_chk ax_g521 ax_c521 0 1000000 = true := by decide +kernel
def ax_g522 : ax_G := (0x0, 1, [], [], [], 0, 1, [])
set_option maxRecDepth 1000000 in
theorem ax_q522 : ax_chk ax_g522 ax_c522 0 1000000 = true := by decide +kernel
def ax_g523 : ax_G := (0x0, 1, [], [], [], 0, 1, [])
set_option maxRecDepth 1000000 in
theorem ax_q523 : ax_chk ax_g523 ax_c523 0 1000000 = true := by decide +kernel
def ax_g524 : ax_G := (0x0, 1, [], [], [], 0, 1, [])
set_option maxRecDepth 1000000 in
theorem ax_q524 : ax_chk ax_g524 ax_c524 0 1000000 = true := by decide +kernel
def ax_g525 : ax_G := (0x0, 1, [], [], [], 0, 1, [])
set_option maxRecDepth 1000000 in
theorem ax_q525 : ax_chk ax_g525 ax_c525 0 1000000 = true := by decide +kernel
def ax_g526 : ax_G := (0x0, 1, [], [], [], 0, 1, [])
set_option maxRecDepth 1000000 in
theorem ax_q526 : ax_chk ax_g526 ax_c526 0 1000000 = true := by decide +kernel
def ax_g527 : ax_G := (0x0, 1, [], [], [], 0, 1, [])
set_option maxRecDepth 1000000 in
theorem ax_q527 : ax_chk ax_g527 ax_c527 0 1000000 = true := by decide +kernel
def ax_g528 : ax_G := (0x0, 1, [], [], [], 0, 1, [])
set_option maxRecDepth 1000000 in
theorem ax_q528 : ax_chk ax_g528 ax_c528 0 1000000 = true := by decide +kernel
def ax_g529 : ax_G := (0x0, 1, [], [], [], 0, 1, [])
set_option maxRecDepth 1000000 in
theorem ax_q529 : ax_chk ax_g529 ax_c529 0 1000000 = true := by decide +kernel
def ax_g530 : ax_G := (0x0, 1, [], [], [], 0, 1, [])
set_option maxRecDepth 1000000 in
theorem ax_q530 : ax_chk ax_g530 ax_c530 0 1000000 = true := by decide +kernel
def ax_g531 : ax_G := (0x0, 1, [], [], [], 0, 1, [])
set_option maxRecDepth 1000000 in
theorem ax_q531 : ax_chk ax_g531 ax_c531 0 1000000 = true := by decide +kernel
def ax_g532 : ax_G := (0x0, 1, [], [], [], 0, 1, [])
set_option maxRecDepth 1000000 in
theorem ax_q532 : ax_chk ax_g532 ax_c532 0 1000000 = true := by decide +kernel
def ax_g533 : ax_G := (0x0, 1, [], [], [], 0, 1, [])
set_option maxRecDepth 1000000 in
theorem ax_q533 : ax_chk ax_g533 ax_c533 0 1000000 = true := by decide +kernel
def ax_g534 : ax_G := (0x0, 1, [], [], [], 0, 1, [])
set_option maxRecDepth 1000000 in
theorem ax_q534 : ax_chk ax_g534 ax_c534 0 1000000 = true := by decide +kernel
def ax_g535 : ax_G := (0x0, 1, [], [], [], 0, 1, [])
set_option maxRecDepth 1000000 in
theorem ax_q535 : ax_chk ax_g535 ax_c535 0 1000000 = true := by decide +kernel
def ax_g536 : ax_G := (0x0, 1, [], [], [], 0, 1, [])
set_option maxRecDepth 1000000 in
theorem ax_q536 : ax_chk ax_g536 ax_c536 0 1000000 = true := by decide +kernel
def ax_g537 : ax_G := (0x0, 1, [], [], [], 0, 1, [])
set_option maxRecDepth 1000000 in
theorem ax_q537 : ax_chk ax_g537 ax_c537 0 1000000 = true := by decide +kernel
def ax_g538 : ax_G := (0x0, 1, [], [], [], 0, 1, [])
set_option maxRecDepth 1000000 in
theorem ax_q538 : ax_chk ax_g538 ax_c538 0 1000000 = true := by decide +kernel
def ax_g539 : ax_G := (0x0, 1, [], [], [], 0, 1, [])
set_option maxRecDepth 1000000 in
theorem ax_q539 : ax_chk ax_g539 ax_c539 0 1000000 = true := by decide +kernel
def ax_g540 : ax_G := (0x0, 1, [], [], [], 0, 1, [])
set_option maxRecDepth 1000000 in
theorem ax_q540 : ax_chk ax_g540 ax_c540 0 1000000 = true := by decide +kernel
def ax_g541 : ax_G := (0x0, 1, [], [], [], 0, 1, [])
set_option maxRecDepth 1000000 in
theorem ax_q541 : ax_chk ax_g541 ax_c541 0 1000000 = true := by decide +kernel
def ax_g542 : ax_G := (0x0, 1, [], [], [], 0, 1, [])
set_option maxRecDepth 1000000 in
theorem ax_q542 : ax_chk ax_g542 ax_c542 0 1000000 = true := by decide +kernel
def ax_g543 : ax_G := (0x0, 1, [], [], [], 0, 1, [])
set_option maxRecDepth 1000000 in
theorem ax_q543 : ax_chk ax_g543 ax_c543 0 1000000 = true := by decide +kernel
def ax_g544 : ax_G := (0x0, 1, [], [], [], 0, 1, [])
set_option maxRecDepth 1000000 in
theorem ax_q544 : ax_chk ax_g544 ax_c544 0 1000000 = true := by decide +kernel
def ax_g545 : ax_G := (0x0, 1, [], [], [], 0, 1, [])
set_option maxRecDepth 1000000 in
theorem ax_q545 : ax_chk ax_g545 ax_c545 0 1000000 = true := by decide +kernel
def ax_g546 : ax_G := (0x0, 1, [], [], [], 0, 1, [])
set_option maxRecDepth 1000000 in
theorem ax_q546 : ax_chk ax_g546 ax_c546 0 1000000 = true := by decide +kernel
def ax_g547 : ax_G := (0x0, 1, [], [], [], 0, 1, [])
set_option maxRecDepth 1000000 in
theorem ax_q547 : ax_chk ax_g547 ax_c547 0 1000000 = true := by decide +kernel
def ax_g548 : ax_G := (0x0, 1, [], [], [], 0, 1, [])
set_option maxRecDepth 1000000 in
theorem ax_q548 : ax_chk ax_g548 ax_c548 0 1000000 = true := by decide +kernel
def ax_g549 : ax_G := (0x0, 1, [], [], [], 0, 1, [])
set_option maxRecDepth 1000000 in
theorem ax_q549 : ax_chk ax_g549 ax_c549 0 1000000 = true := by decide +kernel
def ax_g550 : ax_G := (0x0, 1, [], [], [], 0, 1, [])
set_option maxRecDepth 1000000 in
theorem ax_q550 : ax_chk ax_g550 ax_c550 0 1000000 = true := by decide +kernel
def ax_g551 : ax_G := (0x0, 1, [], [], [], 0, 1, [])
set_option maxRecDepth 1000000 in
theorem ax_q551 : ax_chk ax_g551 ax_c551 0 1000000 = true := by decide +kernel
def ax_g552 : ax_G := (0x0, 1, [], [], [], 0, 1, [])
set_option maxRecDepth 1000000 in
theorem ax_q552 : ax_chk ax_g552 ax_c552 0 1000000 = true := by decide +kernel
def ax_g553 : ax_G := (0x0, 1, [], [], [], 0, 1, [])
set_option maxRecDepth 1000000 in
theorem ax_q553 : ax_chk ax_g553 ax_c553 0 1000000 = true := by decide +kernel
def ax_g554 : ax_G := (0x0, 1, [], [], [], 0, 1, [])
set_option maxRecDepth 1000000 in
theorem ax_q554 : ax_chk ax_g554 ax_c554 0 1000000 = true := by decide +kernel
def ax_g555 : ax_G := (0x0, 1, [], [], [], 0, 1, [])
set_option maxRecDepth 1000000 in
theorem ax_q555 : ax_chk ax_g555 ax_c555 0 1000000 = true := by decide +kernel
def ax_g556 : ax_G := (0x0, 1, [], [], [], 0, 1, [])
set_option maxRecDepth 1000000 in
theorem ax_q556 : ax_chk ax_g556 ax_c556 0 1000000 = true := by decide +kernel
def ax_g557 : ax_G := (0x0, 1, [], [], [], 0, 1, [])
set_option maxRecDepth 1000000 in
theorem ax_q557 : ax_chk ax_g557 ax_c557 0 1000000 = true := by decide +kernel
def ax_g558 : ax_G := (0x0, 1, [], [], [], 0, 1, [])
set_option maxRecDepth 1000000 in
theorem ax_q558 : ax_chk ax_g558 ax_c558 0 1000000 = true := by decide +kernel
def ax_g559 : ax_G := (0x0, 1, [], [], [], 0, 1, [])
set_option maxRecDepth 1000000 in
theorem ax_q559 : ax_chk ax_g559 ax_c559 0 1000000 = true := by decide +kernel
def ax_g560 : ax_G := (0x0, 1, [], [], [], 0, 1, [])
set_option maxRecDepth 1000000 in
theorem ax_q560 : ax_chk ax_g560 ax_c560 0 1000000 = true := by decide +kernel
def ax_g561 : ax_G := (0x0, 1, [], [], [], 0, 1, [])
set_option maxRecDepth 1000000 in
theorem ax_q561 : ax_chk ax_g561 ax_c561 0 1000000 = true := by decide +kernel
def ax_g562 : ax_G := (0x0, 1, [], [], [], 0, 1, [])
set_option maxRecDepth 1000000 in
theorem ax_q562 : ax_chk ax_g562 ax_c562 0 1000000 = true := by decide +kernel
def ax_g563 : ax_G := (0x0, 1, [], [], [], 0, 1, [])
set_option maxRecDepth 1000000 in
theorem ax_q563 : ax_chk ax_g563 ax_c563 0 1000000 = true := by decide +kernel
def ax_g564 : ax_G := (0x0, 1, [], [], [], 0, 1, [])
set_option maxRecDepth 1000000 in
theorem ax_q564 : ax_chk ax_g564 ax_c564 0 1000000 = true := by decide +kernel
def ax_g565 : ax_G := (0x0, 1, [], [], [], 0, 1, [])
set_option maxRecDepth 1000000 in
theorem ax_q565 : ax_chk ax_g565 ax_c565 0 1000000 = true := by decide +kernel
def ax_g566 : ax_G := (0x0, 1, [], [], [], 0, 1, [])
set_option maxRecDepth 1000000 in
theorem ax_q566 : ax_chk ax_g566 ax_c566 0 1000000 = true := by decide +kernel
def ax_g567 : ax_G := (0x0, 1, [], [], [], 0, 1, [])
set_option maxRecDepth 1000000 in
theorem ax_q567 : ax_chk ax_g567 ax_c567 0 1000000 = true := by decide +kernel
def ax_g568 : ax_G := (0x0, 1, [], [], [], 0, 1, [])
set_option maxRecDepth 1000000 in
theorem ax_q568 : ax_chk ax_g568 ax_c568 0 1000000 = true := by decide +kernel
def ax_g569 : ax_G := (0x0, 1, [], [], [], 0, 1, [])
set_option maxRecDepth 1000000 in
theorem ax_q569 : ax_chk ax_g569 ax_c569 0 1000000 = true := by decide +kernel
def ax_g570 : ax_G := (0x0, 1, [], [], [], 0, 1, [])
set_option maxRecDepth 1000000 in
theorem ax_q570 : ax_chk ax_g570 ax_c570 0 1000000 = true := by decide +kernel
def ax_g571 : ax_G := (0x0, 1, [], [], [], 0, 1, [])
set_option maxRecDepth 1000000 in
theorem ax_q571 : ax_chk ax_g571 ax_c571 0 1000000 = true := by decide +kernel
def ax_g572 : ax_G := (0x0, 1, [], [], [], 0, 1, [])
set_option maxRecDepth 1000000 in
theorem ax_q572 : ax_chk ax_g572 ax_c572 0 1000000 = true := by decide +kernel
def ax_g573 : ax_G := (0x0, 1, [], [], [], 0, 1, [])
set_option maxRecDepth 1000000 in
theorem ax_q573 : ax_chk ax_g573 ax_c573 0 1000000 = true := by decide +kernel
def ax_g574 : ax_G := (0x0, 1, [], [], [], 0, 1, [])
set_option maxRecDepth 1000000 in
theorem ax_q574 : ax_chk ax_g574 ax_c574 0 1000000 = true := by decide +kernel
def ax_g575 : ax_G := (0x0, 1, [], [], [], 0, 1, [])
set_option maxRecDepth 1000000 in
theorem ax_q575 : ax_chk ax_g575 ax_c575 0 1000000 = true := by decide +kernel
def ax_g576 : ax_G := (0x0, 1, [], [], [], 0, 1, [])
set_option maxRecDepth 1000000 in
theorem ax_q576 : ax_chk ax_g576 ax_c576 0 1000000 = true := by decide +kernel
def ax_g577 : ax_G := (0x0, 1, [], [], [], 0, 1, [])
set_option maxRecDepth 1000000 in
theorem ax_q577 : ax_chk ax_g577 ax_c577 0 1000000 = true := by decide +kernel
def ax_g578 : ax_G := (0x0, 1, [], [], [], 0, 1, [])
set_option maxRecDepth 1000000 in
theorem ax_q578 : ax_chk ax_g578 ax_c578 0 1000000 = true := by decide +kernel
def ax_g579 : ax_G := (0x0, 1, [], [], [], 0, 1, [])
set_option maxRecDepth 1000000 in
theorem ax_q579 : ax_chk ax_g579 ax_c579 0 1000000 = true := by decide +kernel
def ax_g580 : ax_G := (0x0, 1, [], [], [], 0, 1, [])
set_option maxRecDepth 1000000 in
theorem ax_q580 : ax_chk ax_g580 ax_c580 0 1000000 = true := by decide +kernel
def ax_g581 : ax_G := (0x0, 1, [], [], [], 0, 1, [])
set_option maxRecDepth 1000000 in
theorem ax_q581 : ax_chk ax_g581 ax_c581 0 1000000 = true := by decide +kernel
def ax_g582 : ax_G := (0x0, 1, [], [], [], 0, 1, [])
set_option maxRecDepth 1000000 in
theorem ax_q582 : ax_chk ax_g582 ax_c582 0 1000000 = true := by decide +kernel
def ax_g583 : ax_G := (0x0, 1, [], [], [], 0, 1, [])
set_option maxRecDepth 1000000 in
theorem ax_q583 : ax_chk ax_g583 ax_c583 0 1000000 = true := by decide +kernel
def ax_g584 : ax_G := (0x0, 1, [], [], [], 0, 1, [])
set_option maxRecDepth 1000000 in
theorem ax_q584 : ax_chk ax_g584 ax_c584 0 1000000 = true := by decide +kernel
def ax_g585 : ax_G := (0x0, 1, [], [], [], 0, 1, [])
set_option maxRecDepth 1000000 in
theorem ax_q585 : ax_chk ax_g585 ax_c585 0 1000000 = true := by decide +kernel
def ax_g586 : ax_G := (0x0, 1, [], [], [], 0, 1, [])
set_option maxRecDepth 1000000 in
theorem ax_q586 : ax_chk ax_g586 ax_c586 0 1000000 = true := by decide +kernel
def ax_g587 : ax_G := (0x0, 1, [], [], [], 0, 1, [])
set_option maxRecDepth 1000000 in
theorem ax_q587 : ax_chk ax_g587 ax_c587 0 1000000 = true := by decide +kernel
def ax_g588 : ax_G := (0x0, 1, [], [], [], 0, 1, [])
set_option maxRecDepth 1000000 in
theorem ax_q588 : ax_chk ax_g588 ax_c588 0 1000000 = true := by decide +kernel
def ax_g589 : ax_G := (0x0, 1, [], [], [], 0, 1, [])
set_option maxRecDepth 1000000 in
theorem ax_q589 : ax_chk ax_g589 ax_c589 0 1000000 = true := by decide +kernel
def ax_g590 : ax_G := (0x0, 1, [], [], [], 0, 1, [])
set_option maxRecDepth 1000000 in
theorem ax_q590 : ax_chk ax_g590 ax_c590 0 1000000 = true := by decide +kernel
def ax_g591 : ax_G := (0x0, 1, [], [], [], 0, 1, [])
set_option maxRecDepth 1000000 in
theorem ax_q591 : ax_chk ax_g591 ax_c591 0 1000000 = true := by decide +kernel
def ax_g592 : ax_G := (0x0, 1, [], [], [], 0, 1, [])
set_option maxRecDepth 1000000 in
theorem ax_q592 : ax_chk ax_g592 ax_c592 0 1000000 = true := by decide +kernel
def ax_g593 : ax_G := (0x0, 1, [], [], [], 0, 1, [])
set_option maxRecDepth 1000000 in
theorem ax_q593 : ax_chk ax_g593 ax_c593 0 1000000 = true := by decide +kernel
def ax_g594 : ax_G := (0x0, 1, [], [], [], 0, 1, [])
set_option maxRecDepth 1000000 in
theorem ax_q594 : ax_chk ax_g594 ax_c594 0 1000000 = true := by decide +kernel
def ax_g595 : ax_G := (0x0, 1, [], [], [], 0, 1, [])
set_option maxRecDepth 1000000 in
theorem ax_q595 : ax_chk ax_g595 ax_c595 0 1000000 = true := by decide +kernel
def ax_g596 : ax_G := (0x0, 1, [], [], [], 0, 1, [])
set_option maxRecDepth 1000000 in
theorem ax_q596 : ax_chk ax_g596 ax_c596 0 1000000 = true := by decide +kernel
def ax_g597 : ax_G := (0x0, 1, [], [], [], 0, 1, [])
set_option maxRecDepth 1000000 in
theorem ax_q597 : ax_chk ax_g597 ax_c597 0 1000000 = true := by decide +kernel
def ax_g598 : ax_G := (0x0, 1, [], [], [], 0, 1, [])
set_option maxRecDepth 1000000 in
theorem ax_q598 : ax_chk ax_g598 ax_c598 0 1000000 = true := by decide +kernel
def ax_g599 : ax_G := (0x0, 1, [], [], [], 0, 1, [])
set_option maxRecDepth 1000000 in
theorem ax_q599 : ax_chk ax_g599 ax_c599 0 1000000 = true := by decide +kernel
def ax_g600 : ax_G := (0x0, 1, [], [], [], 0, 1, [])
set_option maxRecDepth 1000000 in
theorem ax_q600 : ax_chk ax_g600 ax_c600 0 1000000 = true := by decide +kernel
def ax_g601 : ax_G := (0x0, 1, [], [], [], 0, 1, [])
set_option maxRecDepth 1000000 in
theorem ax_q601 : ax_chk ax_g601 ax_c601 0 1000000 = true := by decide +kernel
def ax_g602 : ax_G := (0x0, 1, [], [], [], 0, 1, [])
set_option maxRecDepth 1000000 in
theorem ax_q602 : ax_chk ax_g602 ax_c602 0 1000000 = true := by decide +kernel
def ax_g603 : ax_G := (0x0, 1, [], [], [], 0, 1, [])
set_option maxRecDepth 1000000 in
theorem ax_q603 : ax_chk ax_g603 ax_c603 0 1000000 = true := by decide +kernel
def ax_g604 : ax_G := (0x0, 1, [], [], [], 0, 1, [])
set_option maxRecDepth 1000000 in
theorem ax_q604 : ax_chk ax_g604 ax_c604 0 1000000 = true := by decide +kernel
def ax_g605 : ax_G := (0x0, 1, [], [], [], 0, 1, [])
set_option maxRecDepth 1000000 in
theorem ax_q605 : ax_chk ax_g605 ax_c605 0 1000000 = true := by decide +kernel
def ax_g606 : ax_G := (0x0, 1, [], [], [], 0, 1, [])
set_option maxRecDepth 1000000 in
theorem ax_q606 : ax_chk ax_g606 ax_c606 0 1000000 = true := by decide +kernel
def ax_g607 : ax_G := (0x0, 1, [], [], [], 0, 1, [])
set_option maxRecDepth 1000000 in
theorem ax_q607 : ax_chk ax_g607 ax_c607 0 1000000 = true := by decide +kernel
def ax_g608 : ax_G := (0x0, 1, [], [], [], 0, 1, [])
set_option maxRecDepth 1000000 in
theorem ax_q608 : ax_chk ax_g608 ax_c608 0 1000000 = true := by decide +kernel
def ax_g609 : ax_G := (0x0, 1, [], [], [], 0, 1, [])
set_option maxRecDepth 1000000 in
theorem ax_q609 : ax_chk ax_g609 ax_c609 0 1000000 = true := by decide +kernel
def ax_g610 : ax_G := (0x0, 1, [], [], [], 0, 1, [])
set_option maxRecDepth 1000000 in
theorem ax_q610 : ax_chk ax_g610 ax_c610 0 1000000 = true := by decide +kernel
def ax_g611 : ax_G := (0x0, 1, [], [], [], 0, 1, [])
set_option maxRecDepth 1000000 in
theorem ax_q611 : ax_chk ax_g611 ax_c611 0 1000000 = true := by decide +kernel
def ax_g612 : ax_G := (0x0, 1, [], [], [], 0, 1, [])
set_option maxRecDepth 1000000 in
theorem ax_q612 : ax_chk ax_g612 ax_c612 0 1000000 = true := by decide +kernel
def ax_g613 : ax_G := (0x0, 1, [], [], [], 0, 1, [])
set_option maxRecDepth 1000000 in
theorem ax_q613 : ax_chk ax_g613 ax_c613 0 1000000 = true := by decide +kernel
def ax_g614 : ax_G := (0x0, 1, [], [], [], 0, 1, [])
set_option maxRecDepth 1000000 in
theorem ax_q614 : ax_chk ax_g614 ax_c614 0 1000000 = true := by decide +kernel
def ax_g615 : ax_G := (0x0, 1, [], [], [], 0, 1, [])
set_option maxRecDepth 1000000 in
theorem ax_q615 : ax_chk ax_g615 ax_c615 0 1000000 = true := by decide +kernel
def ax_g616 : ax_G := (0x0, 1, [], [], [], 0, 1, [])
set_option maxRecDepth 1000000 in
theorem ax_q616 : ax_chk ax_g616 ax_c616 0 1000000 = true := by decide +kernel
def ax_g617 : ax_G := (0x0, 1, [], [], [], 0, 1, [])
set_option maxRecDepth 1000000 in
theorem ax_q617 : ax_chk ax_g617 ax_c617 0 1000000 = true := by decide +kernel
def ax_g618 : ax_G := (0x0, 1, [], [], [], 0, 1, [])
set_option maxRecDepth 1000000 in
theorem ax_q618 : ax_chk ax_g618 ax_c618 0 1000000 = true := by decide +kernel
def ax_g619 : ax_G := (0x0, 1, [], [], [], 0, 1, [])
set_option maxRecDepth 1000000 in
theorem ax_q619 : ax_chk ax_g619 ax_c619 0 1000000 = true := by decide +kernel
def ax_g620 : ax_G := (0x0, 1, [], [], [], 0, 1, [])
set_option maxRecDepth 1000000 in
theorem ax_q620 : ax_chk ax_g620 ax_c620 0 1000000 = true := by decide +kernel
def ax_g621 : ax_G := (0x0, 1, [], [], [], 0, 1, [])
set_option maxRecDepth 1000000 in
theorem ax_q621 : ax_chk ax_g621 ax_c621 0 1000000 = true := by decide +kernel
def ax_g622 : ax_G := (0x0, 1, [], [], [], 0, 1, [])
set_option maxRecDepth 1000000 in
theorem ax_q622 : ax_chk ax_g622 ax_c622 0 1000000 = true := by decide +kernel
def ax_g623 : ax_G := (0x0, 1, [], [], [], 0, 1, [])
set_option maxRecDepth 1000000 in
theorem ax_q623 : ax_chk ax_g623 ax_c623 0 1000000 = true := by decide +kernel
def ax_g624 : ax_G := (0x0, 1, [], [], [], 0, 1, [])
set_option maxRecDepth 1000000 in
theorem ax_q624 : ax_chk ax_g624 ax_c624 0 1000000 = true := by decide +kernel
def ax_g625 : ax_G := (0x0, 1, [], [], [], 0, 1, [])
set_option maxRecDepth 1000000 in
theorem ax_q625 : ax_chk ax_g625 ax_c625 0 1000000 = true := by decide +kernel
def ax_g626 : ax_G := (0x0, 1, [], [], [], 0, 1, [])
set_option maxRecDepth 1000000 in
theorem ax_q626 : ax_chk ax_g626 ax_c626 0 1000000 = true := by decide +kernel
def ax_g627 : ax_G := (0x0, 1, [], [], [], 0, 1, [])
set_option maxRecDepth 1000000 in
theorem ax_q627 : ax_chk ax_g627 ax_c627 0 1000000 = true := by decide +kernel
def ax_g628 : ax_G := (0x0, 1, [], [], [], 0, 1, [])
set_option maxRecDepth 1000000 in
theorem ax_q628 : ax_chk ax_g628 ax_c628 0 1000000 = true := by decide +kernel
def ax_g629 : ax_G := (0x0, 1, [], [], [], 0, 1, [])
set_option maxRecDepth 1000000 in
theorem ax_q629 : ax_chk ax_g629 ax_c629 0 1000000 = true := by decide +kernel
def ax_g630 : ax_G := (0x0, 1, [], [], [], 0, 1, [])
set_option maxRecDepth 1000000 in
theorem ax_q630 : ax_chk ax_g630 ax_c630 0 1000000 = true := by decide +kernel
def ax_g631 : ax_G := (0x0, 1, [], [], [], 0, 1, [])
set_option maxRecDepth 1000000 in
theorem ax_q631 : ax_chk ax_g631 ax_c631 0 1000000 = true := by decide +kernel
def ax_g632 : ax_G := (0x0, 1, [], [], [], 0, 1, [])
set_option maxRecDepth 1000000 in
theorem ax_q632 : ax_chk ax_g632 ax_c632 0 1000000 = true := by decide +kernel
def ax_g633 : ax_G := (0x0, 1, [], [], [], 0, 1, [])
set_option maxRecDepth 1000000 in
theorem ax_q633 : ax_chk ax_g633 ax_c633 0 1000000 = true := by decide +kernel
def ax_g634 : ax_G := (0x0, 1, [], [], [], 0, 1, [])
set_option maxRecDepth 1000000 in
theorem ax_q634 : ax_chk ax_g634 ax_c634 0 1000000 = true := by decide +kernel
def ax_g635 : ax_G := (0x0, 1, [], [], [], 0, 1, [])
set_option maxRecDepth 1000000 in
theorem ax_q635 : ax_chk ax_g635 ax_c635 0 1000000 = true := by decide +kernel
def ax_g636 : ax_G := (0x0, 1, [], [], [], 0, 1, [])
set_option maxRecDepth 1000000 in
theorem ax_q636 : ax_chk ax_g636 ax_c636 0 1000000 = true := by decide +kernel
def ax_g637 : ax_G := (0x0, 1, [], [], [], 0, 1, [])
set_option maxRecDepth 1000000 in
theorem ax_q637 : ax_chk ax_g637 ax_c637 0 1000000 = true := by decide +kernel
def ax_g638 : ax_G := (0x0, 1, [], [], [], 0, 1, [])
set_option maxRecDepth 1000000 in
theorem ax_q638 : ax_chk ax_g638 ax_c638 0 1000000 = true := by decide +kernel
def ax_g639 : ax_G := (0x0, 1, [], [], [], 0, 1, [])
set_option maxRecDepth 1000000 in
theorem ax_q639 : ax_chk ax_g639 ax_c639 0 1000000 = true := by decide +kernel
def ax_g640 : ax_G := (0x0, 1, [], [], [], 0, 1, [])
set_option maxRecDepth 1000000 in
theorem ax_q640 : ax_chk ax_g640 ax_c640 0 1000000 = true := by decide +kernel
def ax_g641 : ax_G := (0x0, 1, [], [], [], 0, 1, [])
set_option maxRecDepth 1000000 in
theorem ax_q641 : ax_chk ax_g641 ax_c641 0 1000000 = true := by decide +kernel
def ax_g642 : ax_G := (0x0, 1, [], [], [], 0, 1, [])
set_option maxRecDepth 1000000 in
theorem ax_q642 : ax_chk ax_g642 ax_c642 0 1000000 = true := by decide +kernel
def ax_g643 : ax_G := (0x0, 1, [], [], [], 0, 1, [])
set_option maxRecDepth 1000000 in
theorem ax_q643 : ax_chk ax_g643 ax_c643 0 1000000 = true := by decide +kernel
def ax_g644 : ax_G := (0x0, 1, [], [], [], 0, 1, [])
set_option maxRecDepth 1000000 in
theorem ax_q644 : ax_chk ax_g644 ax_c644 0 1000000 = true := by decide +kernel
def ax_g645 : ax_G := (0x0, 1, [], [], [], 0, 1, [])
set_option maxRecDepth 1000000 in
theorem ax_q645 : ax_chk ax_g645 ax_c645 0 1000000 = true := by decide +kernel
def ax_g646 : ax_G := (0x0, 1, [], [], [], 0, 1, [])
set_option maxRecDepth 1000000 in
theorem ax_q646 : ax_chk ax_g646 ax_c646 0 1000000 = true := by decide +kernel
def ax_g647 : ax_G := (0x0, 1, [], [], [], 0, 1, [])
set_option maxRecDepth 1000000 in
theorem ax_q647 : ax_chk ax_g647 ax_c647 0 1000000 = true := by decide +kernel
def ax_g648 : ax_G := (0x0, 1, [], [], [], 0, 1, [])
set_option maxRecDepth 1000000 in
theorem ax_q648 : ax_chk ax_g648 ax_c648 0 1000000 = true := by decide +kernel
def ax_g649 : ax_G := (0x0, 1, [], [], [], 0, 1, [])
set_option maxRecDepth 1000000 in
theorem ax_q649 : ax_chk ax_g649 ax_c649 0 1000000 = true := by decide +kernel
def ax_g650 : ax_G := (0x0, 1, [], [], [], 0, 1, [])
set_option maxRecDepth 1000000 in
theorem ax_q650 : ax_chk ax_g650 ax_c650 0 1000000 = true := by decide +kernel
def ax_g651 : ax_G := (0x0, 1, [], [], [], 0, 1, [])
set_option maxRecDepth 1000000 in
theorem ax_q651 : ax_chk ax_g651 ax_c651 0 1000000 = true := by decide +kernel
def ax_g652 : ax_G := (0x0, 1, [], [], [], 0, 1, [])
set_option maxRecDepth 1000000 in
theorem ax_q652 : ax_chk ax_g652 ax_c652 0 1000000 = true := by decide +kernel
def ax_g653 : ax_G := (0x0, 1, [], [], [], 0, 1, [])
set_option maxRecDepth 1000000 in
theorem ax_q653 : ax_chk ax_g653 ax_c653 0 1000000 = true := by decide +kernel
def ax_g654 : ax_G := (0x0, 1, [], [], [], 0, 1, [])
set_option maxRecDepth 1000000 in
theorem ax_q654 : ax_chk ax_g654 ax_c654 0 1000000 = true := by decide +kernel
def ax_g655 : ax_G := (0x0, 1, [], [], [], 0, 1, [])
set_option maxRecDepth 1000000 in
theorem ax_q655 : ax_chk ax_g655 ax_c655 0 1000000 = true := by decide +kernel
def ax_g656 : ax_G := (0x0, 1, [], [], [], 0, 1, [])
set_option maxRecDepth 1000000 in
theorem ax_q656 : ax_chk ax_g656 ax_c656 0 1000000 = true := by decide +kernel
def ax_g657 : ax_G := (0x0, 1, [], [], [], 0, 1, [])
set_option maxRecDepth 1000000 in
theorem ax_q657 : ax_chk ax_g657 ax_c657 0 1000000 = true := by decide +kernel
def ax_g658 : ax_G := (0x0, 1, [], [], [], 0, 1, [])
set_option maxRecDepth 1000000 in
theorem ax_q658 : ax_chk ax_g658 ax_c658 0 1000000 = true := by decide +kernel
def ax_g659 : ax_G := (0x0, 1, [], [], [], 0, 1, [])
set_option maxRecDepth 1000000 in
theorem ax_q659 : ax_chk ax_g659 ax_c659 0 1000000 = true := by decide +kernel
def ax_g660 : ax_G := (0x0, 1, [], [], [], 0, 1, [])
set_option maxRecDepth 1000000 in
theorem ax_q660 : ax_chk ax_g660 ax_c660 0 1000000 = true := by decide +kernel
def ax_g661 : ax_G := (0x0, 1, [], [], [], 0, 1, [])
set_option maxRecDepth 1000000 in
theorem ax_q661 : ax_chk ax_g661 ax_c661 0 1000000 = true := by decide +kernel
def ax_g662 : ax_G := (0x0, 1, [], [], [], 0, 1, [])
set_option maxRecDepth 1000000 in
theorem ax_q662 : ax_chk ax_g662 ax_c662 0 1000000 = true := by decide +kernel
def ax_g663 : ax_G := (0x0, 1, [], [], [], 0, 1, [])
set_option maxRecDepth 1000000 in
theorem ax_q663 : ax_chk ax_g663 ax_c663 0 1000000 = true := by decide +kernel
def ax_g664 : ax_G := (0x0, 1, [], [], [], 0, 1, [])
set_option maxRecDepth 1000000 in
theorem ax_q664 : ax_chk ax_g664 ax_c664 0 1000000 = true := by decide +kernel
def ax_g665 : ax_G := (0x0, 1, [], [], [], 0, 1, [])
set_option maxRecDepth 1000000 in
theorem ax_q665 : ax_chk ax_g665 ax_c665 0 1000000 = true := by decide +kernel
def ax_g666 : ax_G := (0x0, 1, [], [], [], 0, 1, [])
set_option maxRecDepth 1000000 in
theorem ax_q666 : ax_chk ax_g666 ax_c666 0 1000000 = true := by decide +kernel
def ax_g667 : ax_G := (0x0, 1, [], [], [], 0, 1, [])
set_option maxRecDepth 1000000 in
theorem ax_q667 : ax_chk ax_g667 ax_c667 0 1000000 = true := by decide +kernel
def ax_g668 : ax_G := (0x0, 1, [], [], [], 0, 1, [])
set_option maxRecDepth 1000000 in
theorem ax_q668 : ax_chk ax_g668 ax_c668 0 1000000 = true := by decide +kernel
def ax_g669 : ax_G := (0x0, 1, [], [], [], 0, 1, [])
set_option maxRecDepth 1000000 in
theorem ax_q669 : ax_chk ax_g669 ax_c669 0 1000000 = true := by decide +kernel
def ax_g670 : ax_G := (0x0, 1, [], [], [], 0, 1, [])
set_option maxRecDepth 1000000 in
theorem ax_q670 : ax_chk ax_g670 ax_c670 0 1000000 = true := by decide +kernel
def ax_g671 : ax_G := (0x0, 1, [], [], [], 0, 1, [])
set_option maxRecDepth 1000000 in
theorem ax_q671 : ax_chk ax_g671 ax_c671 0 1000000 = true := by decide +kernel
def ax_g672 : ax_G := (0x0, 1, [], [], [], 0, 1, [])
set_option maxRecDepth 1000000 in
theorem ax_q672 : ax_chk ax_g672 ax_c672 0 1000000 = true := by decide +kernel
def ax_g673 : ax_G := (0x0, 1, [], [], [], 0, 1, [])
set_option maxRecDepth 1000000 in
theorem ax_q673 : ax_chk ax_g673 ax_c673 0 1000000 = true := by decide +kernel
def ax_g674 : ax_G := (0x0, 1, [], [], [], 0, 1, [])
set_option maxRecDepth 1000000 in
theorem ax_q674 : ax_chk ax_g674 ax_c674 0 1000000 = true := by decide +kernel
def ax_g675 : ax_G := (0x0, 1, [], [], [], 0, 1, [])
set_option maxRecDepth 1000000 in
theorem ax_q675 : ax_chk ax_g675 ax_c675 0 1000000 = true := by decide +kernel
def ax_g676 : ax_G := (0x0, 1, [], [], [], 0, 1, [])
set_option maxRecDepth 1000000 in
theorem ax_q676 : ax_chk ax_g676 ax_c676 0 1000000 = true := by decide +kernel
def ax_g677 : ax_G := (0x0, 1, [], [], [], 0, 1, [])
set_option maxRecDepth 1000000 in
theorem ax_q677 : ax_chk ax_g677 ax_c677 0 1000000 = true := by decide +kernel
def ax_g678 : ax_G := (0x0, 1, [], [], [], 0, 1, [])
set_option maxRecDepth 1000000 in
theorem ax_q678 : ax_chk ax_g678 ax_c678 0 1000000 = true := by decide +kernel
def ax_g679 : ax_G := (0x0, 1, [], [], [], 0, 1, [])
set_option maxRecDepth 1000000 in
theorem ax_q679 : ax_chk ax_g679 ax_c679 0 1000000 = true := by decide +kernel
def ax_g680 : ax_G := (0x0, 1, [], [], [], 0, 1, [])
set_option maxRecDepth 1000000 in
theorem ax_q680 : ax_chk ax_g680 ax_c680 0 1000000 = true := by decide +kernel
def ax_g681 : ax_G := (0x0, 1, [], [], [], 0, 1, [])
set_option maxRecDepth 1000000 in
theorem ax_q681 : ax_chk ax_g681 ax_c681 0 1000000 = true := by decide +kernel
def ax_g682 : ax_G := (0x0, 1, [], [], [], 0, 1, [])
set_option maxRecDepth 1000000 in
theorem ax_q682 : ax_chk ax_g682 ax_c682 0 1000000 = true := by decide +kernel
def ax_g683 : ax_G := (0x0, 1, [], [], [], 0, 1, [])
set_option maxRecDepth 1000000 in
theorem ax_q683 : ax_chk ax_g683 ax_c683 0 1000000 = true := by decide +kernel
def ax_g684 : ax_G := (0x0, 1, [], [], [], 0, 1, [])
set_option maxRecDepth 1000000 in
theorem ax_q684 : ax_chk ax_g684 ax_c684 0 1000000 = true := by decide +kernel
def ax_g685 : ax_G := (0x0, 1, [], [], [], 0, 1, [])
set_option maxRecDepth 1000000 in
theorem ax_q685 : ax_chk ax_g685 ax_c685 0 1000000 = true := by decide +kernel
def ax_g686 : ax_G := (0x0, 1, [], [], [], 0, 1, [])
set_option maxRecDepth 1000000 in
theorem ax_q686 : ax_chk ax_g686 ax_c686 0 1000000 = true := by decide +kernel
def ax_g687 : ax_G := (0x0, 1, [], [], [], 0, 1, [])
set_option maxRecDepth 1000000 in
theorem ax_q687 : ax_chk ax_g687 ax_c687 0 1000000 = true := by decide +kernel
def ax_g688 : ax_G := (0x0, 1, [], [], [], 0, 1, [])
set_option maxRecDepth 1000000 in
theorem ax_q688 : ax_chk ax_g688 ax_c688 0 1000000 = true := by decide +kernel
def ax_g689 : ax_G := (0x0, 1, [], [], [], 0, 1, [])
set_option maxRecDepth 1000000 in
theorem ax_q689 : ax_chk ax_g689 ax_c689 0 1000000 = true := by decide +kernel
def ax_g690 : ax_G := (0x0, 1, [], [], [], 0, 1, [])
set_option maxRecDepth 1000000 in
theorem ax_q690 : ax_chk ax_g690 ax_c690 0 1000000 = true := by decide +kernel
def ax_g691 : ax_G := (0x0, 1, [], [], [], 0, 1, [])
set_option maxRecDepth 1000000 in
theorem ax_q691 : ax_chk ax_g691 ax_c691 0 1000000 = true := by decide +kernel
def ax_g692 : ax_G := (0x0, 1, [], [], [], 0, 1, [])
set_option maxRecDepth 1000000 in
theorem ax_q692 : ax_chk ax_g692 ax_c692 0 1000000 = true := by decide +kernel
def ax_g693 : ax_G := (0x0, 1, [], [], [], 0, 1, [])
set_option maxRecDepth 1000000 in
theorem ax_q693 : ax_chk ax_g693 ax_c693 0 1000000 = true := by decide +kernel
def ax_g694 : ax_G := (0x0, 1, [], [], [], 0, 1, [])
set_option maxRecDepth 1000000 in
theorem ax_q694 : ax_chk ax_g694 ax_c694 0 1000000 = true := by decide +kernel
def ax_g695 : ax_G := (0x0, 1, [], [], [], 0, 1, [])
set_option maxRecDepth 1000000 in
theorem ax_q695 : ax_chk ax_g695 ax_c695 0 1000000 = true := by decide +kernel
def ax_g696 : ax_G := (0x0, 1, [], [], [], 0, 1, [])
set_option maxRecDepth 1000000 in
theorem ax_q696 : ax_chk ax_g696 ax_c696 0 1000000 = true := by decide +kernel
def ax_g697 : ax_G := (0x0, 1, [], [], [], 0, 1, [])
set_option maxRecDepth 1000000 in
theorem ax_q697 : ax_chk ax_g697 ax_c697 0 1000000 = true := by decide +kernel
def ax_g698 : ax_G := (0x0, 1, [], [], [], 0, 1, [])
set_option maxRecDepth 1000000 in
theorem ax_q698 : ax_chk ax_g698 ax_c698 0 1000000 = true := by decide +kernel
def ax_g699 : ax_G := (0x0, 1, [], [], [], 0, 1, [])
set_option maxRecDepth 1000000 in
theorem ax_q699 : ax_chk ax_g699 ax_c699 0 1000000 = true := by decide +kernel
def ax_g700 : ax_G := (0x0, 1, [], [], [], 0, 1, [])
set_option maxRecDepth 1000000 in
theorem ax_q700 : ax_chk ax_g700 ax_c700 0 1000000 = true := by decide +kernel
def ax_g701 : ax_G := (0x0, 1, [], [], [], 0, 1, [])
set_option maxRecDepth 1000000 in
theorem ax_q701 : ax_chk ax_g701 ax_c701 0 1000000 = true := by decide +kernel
def ax_g702 : ax_G := (0x0, 1, [], [], [], 0, 1, [])
set_option maxRecDepth 1000000 in
theorem ax_q702 : ax_chk ax_g702 ax_c702 0 1000000 = true := by decide +kernel
def ax_g703 : ax_G := (0x0, 1, [], [], [], 0, 1, [])
set_option maxRecDepth 1000000 in
theorem ax_q703 : ax_chk ax_g703 ax_c703 0 1000000 = true := by decide +kernel
def ax_g704 : ax_G := (0x0, 1, [], [], [], 0, 1, [])
set_option maxRecDepth 1000000 in
theorem ax_q704 : ax_chk ax_g704 ax_c704 0 1000000 = true := by decide +kernel
def ax_g705 : ax_G := (0x0, 1, [], [], [], 0, 1, [])
set_option maxRecDepth 1000000 in
theorem ax_q705 : ax_chk ax_g705 ax_c705 0 1000000 = true := by decide +kernel
def ax_g706 : ax_G := (0x0, 1, [], [], [], 0, 1, [])
set_option maxRecDepth 1000000 in
theorem ax_q706 : ax_chk ax_g706 ax_c706 0 1000000 = true := by decide +kernel
def ax_g707 : ax_G := (0x0, 1, [], [], [], 0, 1, [])
set_option maxRecDepth 1000000 in
theorem ax_q707 : ax_chk ax_g707 ax_c707 0 1000000 = true := by decide +kernel
def ax_g708 : ax_G := (0x0, 1, [], [], [], 0, 1, [])
set_option maxRecDepth 1000000 in
theorem ax_q708 : ax_chk ax_g708 ax_c708 0 1000000 = true := by decide +kernel
def ax_g709 : ax_G := (0x0, 1, [], [], [], 0, 1, [])
set_option maxRecDepth 1000000 in
theorem ax_q709 : ax_chk ax_g709 ax_c709 0 1000000 = true := by decide +kernel
def ax_g710 : ax_G := (0x0, 1, [], [], [], 0, 1, [])
set_option maxRecDepth 1000000 in
theorem ax_q710 : ax_chk ax_g710 ax_c710 0 1000000 = true := by decide +kernel
def ax_g711 : ax_G := (0x0, 1, [], [], [], 0, 1, [])
set_option maxRecDepth 1000000 in
theorem ax_q711 : ax_chk ax_g711 ax_c711 0 1000000 = true := by decide +kernel
def ax_g712 : ax_G := (0x0, 1, [], [], [], 0, 1, [])
set_option maxRecDepth 1000000 in
theorem ax_q712 : ax_chk ax_g712 ax_c712 0 1000000 = true := by decide +kernel
def ax_g713 : ax_G := (0x0, 1, [], [], [], 0, 1, [])
set_option maxRecDepth 1000000 in
theorem ax_q713 : ax_chk ax_g713 ax_c713 0 1000000 = true := by decide +kernel
def ax_g714 : ax_G := (0x0, 1, [], [], [], 0, 1, [])
set_option maxRecDepth 1000000 in
theorem ax_q714 : ax_chk ax_g714 ax_c714 0 1000000 = true := by decide +kernel
def ax_g715 : ax_G := (0x0, 1, [], [], [], 0, 1, [])
set_option maxRecDepth 1000000 in
theorem ax_q715 : ax_chk ax_g715 ax_c715 0 1000000 = true := by decide +kernel
def ax_g716 : ax_G := (0x10000040000000000000000000000000000000000000000000000000000000000000000000000000000000000000000000000000000000000000000000000000000000000, 1, [(20, [ax_c205, ax_c206, ax_c208, ax_c210, ax_c212, ax_c214, ax_c216, ax_c218, ax_c220, ax_c222, ax_c224, ax_c226, ax_c228, ax_c230, ax_c232, ax_c234, ax_c236, ax_c238, ax_c240, ax_c242, ax_c244, ax_c246, ax_c248, ax_c250, ax_c252, ax_c254, ax_c256, ax_c258, ax_c260, ax_c262, ax_c264, ax_c266, ax_c268, ax_c270, ax_c272, ax_c274, ax_c276, ax_c278, ax_c280, ax_c282, ax_c284, ax_c286, ax_c288, ax_c290, ax_c292, ax_c294, ax_c296, ax_c298, ax_c300, ax_c302, ax_c304, ax_c306, ax_c308, ax_c310, ax_c312, ax_c314, ax_c316, ax_c318, ax_c320, ax_c322, ax_c324, ax_c326, ax_c328, ax_c330, ax_c332, ax_c334, ax_c336, ax_c338, ax_c340, ax_c342, ax_c344, ax_c346, ax_c348, ax_c350, ax_c352, ax_c354, ax_c356, ax_c358, ax_c360, ax_c362, ax_c364, ax_c366, ax_c368, ax_c370, ax_c372, ax_c374, ax_c376, ax_c378, ax_c380, ax_c382, ax_c384, ax_c386, ax_c388, ax_c390, ax_c392, ax_c394, ax_c396, ax_c398, ax_c400, ax_c402, ax_c404, ax_c406, ax_c408, ax_c410, ax_c412, ax_c414, ax_c416, ax_c418, ax_c420, ax_c422, ax_c424, ax_c426, ax_c428, ax_c430, ax_c432, ax_c434, ax_c436, ax_c438, ax_c440, ax_c442, ax_c444, ax_c446, ax_c448, ax_c450, ax_c452, ax_c454, ax_c456, ax_c458, ax_c460, ax_c462, ax_c464, ax_c466, ax_c468, ax_c470, ax_c472, ax_c474, ax_c476, ax_c478, ax_c480, ax_c482, ax_c484, ax_c486, ax_c488, ax_c490, ax_c492, ax_c494, ax_c496, ax_c498, ax_c500, ax_c502, ax_c504, ax_c506, ax_c508, ax_c510, ax_c512, ax_c514, ax_c516, ax_c518, ax_c520, ax_c522, ax_c524, ax_c526, ax_c528, ax_c530, ax_c532, ax_c534, ax_c536, ax_c538, ax_c540, ax_c542, ax_c544, ax_c546, ax_c548, ax_c550, ax_c552, ax_c554, ax_c556, ax_c558, ax_c560, ax_c562, ax_c564, ax_c566, ax_c568, ax_c570, ax_c572, ax_c574, ax_c576, ax_c578, ax_c580, ax_c582, ax_c584, ax_c586, ax_c588, ax_c590, ax_c592, ax_c594, ax_c596, ax_c598, ax_c600, ax_c602, ax_c604, ax_c606, ax_c608, ax_c610, ax_c612, ax_c614, ax_c616, ax_c618, ax_c620, ax_c622, ax_c624, ax_c626, ax_c628, ax_c630, ax_c632, ax_c634, ax_c636, ax_c638, ax_c640, ax_c642, ax_c644, ax_c646, ax_c648, ax_c650, ax_c652, ax_c654, ax_c656, ax_c658, ax_c660, ax_c662, ax_c664, ax_c666, ax_c668, ax_c670, ax_c672, ax_c674, ax_c676, ax_c678, ax_c680, ax_c682, ax_c684, ax_c686, ax_c688, ax_c690, ax_c692, ax_c694, ax_c696, ax_c698, ax_c700, ax_c702, ax_c704, ax_c706, ax_c708, ax_c710, ax_c712, ax_c714]), (32, [ax_c207, ax_c209, ax_c211, ax_c213, ax_c215, ax_c217, ax_c219, ax_c221, ax_c223, ax_c225, ax_c227, ax_c229, ax_c231, ax_c233, ax_c235, ax_c237, ax_c239, ax_c241, ax_c243, ax_c245, ax_c247, ax_c249, ax_c251, ax_c253, ax_c255, ax_c257, ax_c259, ax_c261, ax_c263, ax_c265, ax_c267, ax_c269, ax_c271, ax_c273, ax_c275, ax_c277, ax_c279, ax_c281, ax_c283, ax_c285, ax_c287, ax_c289, ax_c291, ax_c293, ax_c295, ax_c297, ax_c299, ax_c301, ax_c303, ax_c305, ax_c307, ax_c309, ax_c311, ax_c313, ax_c315, ax_c317, ax_c319, ax_c321, ax_c323, ax_c325, ax_c327, ax_c329, ax_c331, ax_c333, ax_c335, ax_c337, ax_c339, ax_c341, ax_c343, ax_c345, ax_c347, ax_c349, ax_c351, ax_c353, ax_c355, ax_c357, ax_c359, ax_c361, ax_c363, ax_c365, ax_c367, ax_c369, ax_c371, ax_c373, ax_c375, ax_c377, ax_c379, ax_c381, ax_c383, ax_c385, ax_c387, ax_c389, ax_c391, ax_c393, ax_c395, ax_c397, ax_c399, ax_c401, ax_c403, ax_c405, ax_c407, ax_c409, ax_c411, ax_c413, ax_c415, ax_c417, ax_c419, ax_c421, ax_c423, ax_c425, ax_c427, ax_c429, ax_c431, ax_c433, ax_c435, ax_c437, ax_c439, ax_c441, ax_c443, ax_c445, ax_c447, ax_c449, ax_c451, ax_c453, ax_c455, ax_c457, ax_c459, ax_c461, ax_c463, ax_c465, ax_c467, ax_c469, ax_c471, ax_c473, ax_c475, ax_c477, ax_c479, ax_c481, ax_c483, ax_c485, ax_c487, ax_c489, ax_c491, ax_c493, ax_c495, ax_c497, ax_c499, ax_c501, ax_c503, ax_c505, ax_c507, ax_c509, ax_c511, ax_c513, ax_c515, ax_c517, ax_c519, ax_c521, ax_c523, ax_c525, ax_c527, ax_c529, ax_c531, ax_c533, ax_c535, ax_c537, ax_c539, ax_c541, ax_c543, ax_c545, ax_c547, ax_c549, ax_c551, ax_c553, ax_c555, ax_c557, ax_c559, ax_c561, ax_c563, ax_c565, ax_c567, ax_c569, ax_c571, ax_c573, ax_c575, ax_c577, ax_c579, ax_c581, ax_c583, ax_c585, ax_c587, ax_c589, ax_c591, ax_c593, ax_c595, ax_c597, ax_c599, ax_c601, ax_c603, ax_c605, ax_c607, ax_c609, ax_c611, ax_c613, ax_c615, ax_c617, ax_c619, ax_c621, ax_c623, ax_c625, ax_c627, ax_c629, ax_c631, ax_c633, ax_c635, ax_c637, ax_c639, ax_c641, ax_c643, ax_c645, ax_c647, ax_c649, ax_c651, ax_c653, ax_c655, ax_c657, ax_c659, ax_c661, ax_c663, ax_c665, ax_c667, ax_c669, ax_c671, ax_c673, ax_c675, ax_c677, ax_c679, ax_c681, ax_c683, ax_c685, ax_c687, ax_c689, ax_c691, ax_c693, ax_c695, ax_c697, ax_c699, ax_c701, ax_c703, ax_c705, ax_c707, ax_c709, ax_c711, ax_c713, ax_c715])], [(162, 0x4, [(2, [(2, 2147483648, 2147483656, 0), (3, 1, 0, 0), (4, 1, 0, 0)], [], 0x0, 0, 2, 1)])], [(162, 57, 0)], 0, 1, [])
set_option maxRecDepth 1000000 in
theorem ax_q716 : ax_chk ax_g716 ax_c716 0 1000000 = true := by decide +kernel
